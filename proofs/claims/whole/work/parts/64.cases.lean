/-! the law's cases (printed by wip/whole/gen_s.py) -/
theorem m_sld {F : Bool} {K : zK} {o : zO} {pc : Nat} {ls sk : List Value} {M : zM} {u us L : Nat} {xs : Nat → Int32} (j : Nat) (hj : j < L) (hL : L < 2147483648) (d : decode (zKc K) pc = .ok (.iaload, 1))
    (kk : zV F (L, xs) K 0 o (pc + 1) ls (.int (xs j) :: sk) M u us) : zV F (L, xs) K 0 o pc ls (.int (nI j) :: .ref 0 :: sk) M u us :=
  z_sld (vp_in_nI hj hL) rfl d (by rw [nI_clamp (by omega)]; exact kk)
theorem lg_self (x : Int64) : lg_cmp x x = nI 0 := by
  unfold lg_cmp
  have h : ¬ x > x := fun q => absurd (Int64.lt_iff_toInt_lt.mp q) (Int.lt_irrefl _)
  rw [if_neg h, if_pos rfl]
  rfl
theorem ct_thr {E : Nat × (Nat → Int32)} {μ : Nat → Nat → Int32} {g : Int64} {x : Int32} (h : μ 117 0 = x) : zCt E kX8_thrown [.ref 117] (zm μ g) (.inl (some (.int x)), zm μ g) := by rw [← h]; exact ct_X8_thrown
set_option maxRecDepth 100000 in
set_option maxHeartbeats 4000000 in
theorem lk_coast_ok {L i u us : Nat} {xs : Nat → Int32} {μ μ1 μ2 : zMu} {g : Int64} {o : zO} (hi : i + 6 ≤ L) (hL : L ≤ 3072) (hu : u + 8 ≤ 601024) (hus : us + 40 ≤ 7293034) (c1 : zCt (L, xs) kX7_coast [.ref (1), .int (xs (i + 1)), .int (xs (i + 2)), .int (xs (i + 3)), .int (xs (i + 4)), .int (xs (i + 5))] (zm μ g) (.inl (none), zm μ1 g)) (c2 : ∀ g9, zCt (L, xs) kX8_coast [.ref (117), .int (xs (i + 1)), .int (xs (i + 2)), .int (xs (i + 3)), .int (xs (i + 4)), .int (xs (i + 5))] (zm μ1 g9) (.inl (none), zm μ2 g9)) (c3 : μ2 117 0 = nI 0) (kk : ∀ g2 u9 us9, u9 ≤ u + 8 → us9 ≤ us + 40 → zV true (L, xs) kL_law 0 o 1835 [.ref (0), .ref (1), .ref (117), .ref (145), .int (nI i), .null, .null] [] (zm μ2 g2) u9 us9) : zV true (L, xs) kL_law 0 o 144 [.ref (0), .ref (1), .ref (117), .ref (145), .int (nI i), .null, .null] [] (zm μ g) u us := by
  refine z_aload_n rfl rfl dL_law_144 ?_
  refine z_aload_n rfl rfl dL_law_145 ?_
  refine z_iload rfl dL_law_146 ?_
  refine z_iconst (nI 1) (by decide) dL_law_148 ?_
  refine m_addN dL_law_149 ?_
  refine m_sld (i + 1) (by omega) (by omega) dL_law_150 ?_
  refine z_aload_n rfl rfl dL_law_151 ?_
  refine z_iload rfl dL_law_152 ?_
  refine z_iconst (nI 2) (by decide) dL_law_154 ?_
  refine m_addN dL_law_155 ?_
  refine m_sld (i + 2) (by omega) (by omega) dL_law_156 ?_
  refine z_aload_n rfl rfl dL_law_157 ?_
  refine z_iload rfl dL_law_158 ?_
  refine z_iconst (nI 3) (by decide) dL_law_160 ?_
  refine m_addN dL_law_161 ?_
  refine m_sld (i + 3) (by omega) (by omega) dL_law_162 ?_
  refine z_aload_n rfl rfl dL_law_163 ?_
  refine z_iload rfl dL_law_164 ?_
  refine z_iconst (nI 4) (by decide) dL_law_166 ?_
  refine m_addN dL_law_167 ?_
  refine m_sld (i + 4) (by omega) (by omega) dL_law_168 ?_
  refine z_aload_n rfl rfl dL_law_169 ?_
  refine z_iload rfl dL_law_170 ?_
  refine z_iconst (nI 5) (by decide) dL_law_172 ?_
  refine m_addN dL_law_173 ?_
  refine m_sld (i + 5) (by omega) (by omega) dL_law_174 ?_
  refine z_callSX (as := [.ref (1), .int (xs (i + 1)), .int (xs (i + 2)), .int (xs (i + 3)), .int (xs (i + 4)), .int (xs (i + 5))]) (w_coast c1) ko_L_coast kl_L_93 rfl rfl ⟨by decide, by decide, by show u + 2 ≤ 601024; omega, by show us + 12 ≤ 7293034; omega⟩ (Nat.le_of_ble_eq_true rfl) rfl dL_law_175 ?_
  refine z_istore (by decide) rfl dL_law_178 ?_
  refine z_aload_n rfl rfl dL_law_180 ?_
  refine z_aload_n rfl rfl dL_law_181 ?_
  refine z_iload rfl dL_law_182 ?_
  refine z_iconst (nI 1) (by decide) dL_law_184 ?_
  refine m_addN dL_law_185 ?_
  refine m_sld (i + 1) (by omega) (by omega) dL_law_186 ?_
  refine z_aload_n rfl rfl dL_law_187 ?_
  refine z_iload rfl dL_law_188 ?_
  refine z_iconst (nI 2) (by decide) dL_law_190 ?_
  refine m_addN dL_law_191 ?_
  refine m_sld (i + 2) (by omega) (by omega) dL_law_192 ?_
  refine z_aload_n rfl rfl dL_law_193 ?_
  refine z_iload rfl dL_law_194 ?_
  refine z_iconst (nI 3) (by decide) dL_law_196 ?_
  refine m_addN dL_law_197 ?_
  refine m_sld (i + 3) (by omega) (by omega) dL_law_198 ?_
  refine z_aload_n rfl rfl dL_law_199 ?_
  refine z_iload rfl dL_law_200 ?_
  refine z_iconst (nI 4) (by decide) dL_law_202 ?_
  refine m_addN dL_law_203 ?_
  refine m_sld (i + 4) (by omega) (by omega) dL_law_204 ?_
  refine z_aload_n rfl rfl dL_law_205 ?_
  refine z_iload rfl dL_law_206 ?_
  refine z_iconst (nI 5) (by decide) dL_law_208 ?_
  refine m_addN dL_law_209 ?_
  refine m_sld (i + 5) (by omega) (by omega) dL_law_210 ?_
  refine z_callV (as := [.int (xs (i + 1)), .int (xs (i + 2)), .int (xs (i + 3)), .int (xs (i + 4)), .int (xs (i + 5))]) (c2 _) ko_X8_coast kl_L_98 rfl (zl_a rfl rfl) rfl rfl ⟨by decide, by decide, by show u + 2 ≤ 601024; omega, by show us + 12 ≤ 7293034; omega⟩ (Nat.le_of_ble_eq_true rfl) rfl dL_law_211 ?_
  refine z_aload_n rfl rfl dL_law_214 ?_
  refine z_callV (as := []) (ct_thr c3) ko_X8_thrown kl_L_99 rfl (zl_a rfl rfl) rfl rfl ⟨by decide, by decide, by show u + 2 ≤ 601024; omega, by show us + 12 ≤ 7293034; omega⟩ (Nat.le_of_ble_eq_true rfl) rfl dL_law_215 ?_
  refine z_iload rfl dL_law_218 ?_
  refine z_icmp_eq 225 (by decide) dL_law_220 (fun _ => ?_) (fun h => absurd h (by decide))
  refine z_goto 1835 (by decide) dL_law_225 ?_
  refine z_fgt [.ref (0), .ref (1), .ref (117), .ref (145), .int (nI i), .null, .null] ⟨Or.inl rfl, ⟨Or.inl rfl, ⟨Or.inl rfl, ⟨Or.inl rfl, ⟨Or.inl rfl, ⟨Or.inr rfl, ⟨Or.inl rfl, trivial⟩⟩⟩⟩⟩⟩⟩ ?_
  exact kk _ _ _ (by show u + 2 ≤ u + 8; omega) (by show us + 12 ≤ us + 40; omega)
set_option maxRecDepth 100000 in
set_option maxHeartbeats 4000000 in
theorem lk_coast_I {L i u us : Nat} {xs : Nat → Int32} {μ μ1 μ2 : zMu} {g : Int64} {o : zO} (hi : i + 6 ≤ L) (hL : L ≤ 3072) (hu : u + 8 ≤ 601024) (hus : us + 40 ≤ 7293034) (c1 : zCt (L, xs) kX7_coast [.ref (1), .int (xs (i + 1)), .int (xs (i + 2)), .int (xs (i + 3)), .int (xs (i + 4)), .int (xs (i + 5))] (zm μ g) (.inr xI, zm μ g)) (c2 : ∀ g9, zCt (L, xs) kX8_coast [.ref (117), .int (xs (i + 1)), .int (xs (i + 2)), .int (xs (i + 3)), .int (xs (i + 4)), .int (xs (i + 5))] (zm μ g9) (.inl (none), zm μ2 g9)) (c3 : μ2 117 0 = nI 1) (kk : ∀ g2 u9 us9, u9 ≤ u + 8 → us9 ≤ us + 40 → zV true (L, xs) kL_law 0 o 1835 [.ref (0), .ref (1), .ref (117), .ref (145), .int (nI i), .null, .null] [] (zm μ2 g2) u9 us9) : zV true (L, xs) kL_law 0 o 144 [.ref (0), .ref (1), .ref (117), .ref (145), .int (nI i), .null, .null] [] (zm μ g) u us := by
  refine z_aload_n rfl rfl dL_law_144 ?_
  refine z_aload_n rfl rfl dL_law_145 ?_
  refine z_iload rfl dL_law_146 ?_
  refine z_iconst (nI 1) (by decide) dL_law_148 ?_
  refine m_addN dL_law_149 ?_
  refine m_sld (i + 1) (by omega) (by omega) dL_law_150 ?_
  refine z_aload_n rfl rfl dL_law_151 ?_
  refine z_iload rfl dL_law_152 ?_
  refine z_iconst (nI 2) (by decide) dL_law_154 ?_
  refine m_addN dL_law_155 ?_
  refine m_sld (i + 2) (by omega) (by omega) dL_law_156 ?_
  refine z_aload_n rfl rfl dL_law_157 ?_
  refine z_iload rfl dL_law_158 ?_
  refine z_iconst (nI 3) (by decide) dL_law_160 ?_
  refine m_addN dL_law_161 ?_
  refine m_sld (i + 3) (by omega) (by omega) dL_law_162 ?_
  refine z_aload_n rfl rfl dL_law_163 ?_
  refine z_iload rfl dL_law_164 ?_
  refine z_iconst (nI 4) (by decide) dL_law_166 ?_
  refine m_addN dL_law_167 ?_
  refine m_sld (i + 4) (by omega) (by omega) dL_law_168 ?_
  refine z_aload_n rfl rfl dL_law_169 ?_
  refine z_iload rfl dL_law_170 ?_
  refine z_iconst (nI 5) (by decide) dL_law_172 ?_
  refine m_addN dL_law_173 ?_
  refine m_sld (i + 5) (by omega) (by omega) dL_law_174 ?_
  refine z_callSX (as := [.ref (1), .int (xs (i + 1)), .int (xs (i + 2)), .int (xs (i + 3)), .int (xs (i + 4)), .int (xs (i + 5))]) (wI_coast c1) ko_L_coast kl_L_93 rfl rfl ⟨by decide, by decide, by show u + 2 ≤ 601024; omega, by show us + 12 ≤ 7293034; omega⟩ (Nat.le_of_ble_eq_true rfl) rfl dL_law_175 ?_
  refine z_istore (by decide) rfl dL_law_178 ?_
  refine z_aload_n rfl rfl dL_law_180 ?_
  refine z_aload_n rfl rfl dL_law_181 ?_
  refine z_iload rfl dL_law_182 ?_
  refine z_iconst (nI 1) (by decide) dL_law_184 ?_
  refine m_addN dL_law_185 ?_
  refine m_sld (i + 1) (by omega) (by omega) dL_law_186 ?_
  refine z_aload_n rfl rfl dL_law_187 ?_
  refine z_iload rfl dL_law_188 ?_
  refine z_iconst (nI 2) (by decide) dL_law_190 ?_
  refine m_addN dL_law_191 ?_
  refine m_sld (i + 2) (by omega) (by omega) dL_law_192 ?_
  refine z_aload_n rfl rfl dL_law_193 ?_
  refine z_iload rfl dL_law_194 ?_
  refine z_iconst (nI 3) (by decide) dL_law_196 ?_
  refine m_addN dL_law_197 ?_
  refine m_sld (i + 3) (by omega) (by omega) dL_law_198 ?_
  refine z_aload_n rfl rfl dL_law_199 ?_
  refine z_iload rfl dL_law_200 ?_
  refine z_iconst (nI 4) (by decide) dL_law_202 ?_
  refine m_addN dL_law_203 ?_
  refine m_sld (i + 4) (by omega) (by omega) dL_law_204 ?_
  refine z_aload_n rfl rfl dL_law_205 ?_
  refine z_iload rfl dL_law_206 ?_
  refine z_iconst (nI 5) (by decide) dL_law_208 ?_
  refine m_addN dL_law_209 ?_
  refine m_sld (i + 5) (by omega) (by omega) dL_law_210 ?_
  refine z_callV (as := [.int (xs (i + 1)), .int (xs (i + 2)), .int (xs (i + 3)), .int (xs (i + 4)), .int (xs (i + 5))]) (c2 _) ko_X8_coast kl_L_98 rfl (zl_a rfl rfl) rfl rfl ⟨by decide, by decide, by show u + 2 ≤ 601024; omega, by show us + 12 ≤ 7293034; omega⟩ (Nat.le_of_ble_eq_true rfl) rfl dL_law_211 ?_
  refine z_aload_n rfl rfl dL_law_214 ?_
  refine z_callV (as := []) (ct_thr c3) ko_X8_thrown kl_L_99 rfl (zl_a rfl rfl) rfl rfl ⟨by decide, by decide, by show u + 2 ≤ 601024; omega, by show us + 12 ≤ 7293034; omega⟩ (Nat.le_of_ble_eq_true rfl) rfl dL_law_215 ?_
  refine z_iload rfl dL_law_218 ?_
  refine z_icmp_eq 225 (by decide) dL_law_220 (fun _ => ?_) (fun h => absurd h (by decide))
  refine z_goto 1835 (by decide) dL_law_225 ?_
  refine z_fgt [.ref (0), .ref (1), .ref (117), .ref (145), .int (nI i), .null, .null] ⟨Or.inl rfl, ⟨Or.inl rfl, ⟨Or.inl rfl, ⟨Or.inl rfl, ⟨Or.inl rfl, ⟨Or.inr rfl, ⟨Or.inl rfl, trivial⟩⟩⟩⟩⟩⟩⟩ ?_
  exact kk _ _ _ (by show u + 2 ≤ u + 8; omega) (by show us + 12 ≤ us + 40; omega)
set_option maxRecDepth 100000 in
set_option maxHeartbeats 4000000 in
theorem lk_coast_A {L i u us : Nat} {xs : Nat → Int32} {μ μ1 μ2 : zMu} {g : Int64} {o : zO} (hi : i + 6 ≤ L) (hL : L ≤ 3072) (hu : u + 8 ≤ 601024) (hus : us + 40 ≤ 7293034) (c1 : zCt (L, xs) kX7_coast [.ref (1), .int (xs (i + 1)), .int (xs (i + 2)), .int (xs (i + 3)), .int (xs (i + 4)), .int (xs (i + 5))] (zm μ g) (.inr xA, zm μ g)) (c2 : ∀ g9, zCt (L, xs) kX8_coast [.ref (117), .int (xs (i + 1)), .int (xs (i + 2)), .int (xs (i + 3)), .int (xs (i + 4)), .int (xs (i + 5))] (zm μ g9) (.inl (none), zm μ2 g9)) (c3 : μ2 117 0 = nI 2) (kk : ∀ g2 u9 us9, u9 ≤ u + 8 → us9 ≤ us + 40 → zV true (L, xs) kL_law 0 o 1835 [.ref (0), .ref (1), .ref (117), .ref (145), .int (nI i), .null, .null] [] (zm μ2 g2) u9 us9) : zV true (L, xs) kL_law 0 o 144 [.ref (0), .ref (1), .ref (117), .ref (145), .int (nI i), .null, .null] [] (zm μ g) u us := by
  refine z_aload_n rfl rfl dL_law_144 ?_
  refine z_aload_n rfl rfl dL_law_145 ?_
  refine z_iload rfl dL_law_146 ?_
  refine z_iconst (nI 1) (by decide) dL_law_148 ?_
  refine m_addN dL_law_149 ?_
  refine m_sld (i + 1) (by omega) (by omega) dL_law_150 ?_
  refine z_aload_n rfl rfl dL_law_151 ?_
  refine z_iload rfl dL_law_152 ?_
  refine z_iconst (nI 2) (by decide) dL_law_154 ?_
  refine m_addN dL_law_155 ?_
  refine m_sld (i + 2) (by omega) (by omega) dL_law_156 ?_
  refine z_aload_n rfl rfl dL_law_157 ?_
  refine z_iload rfl dL_law_158 ?_
  refine z_iconst (nI 3) (by decide) dL_law_160 ?_
  refine m_addN dL_law_161 ?_
  refine m_sld (i + 3) (by omega) (by omega) dL_law_162 ?_
  refine z_aload_n rfl rfl dL_law_163 ?_
  refine z_iload rfl dL_law_164 ?_
  refine z_iconst (nI 4) (by decide) dL_law_166 ?_
  refine m_addN dL_law_167 ?_
  refine m_sld (i + 4) (by omega) (by omega) dL_law_168 ?_
  refine z_aload_n rfl rfl dL_law_169 ?_
  refine z_iload rfl dL_law_170 ?_
  refine z_iconst (nI 5) (by decide) dL_law_172 ?_
  refine m_addN dL_law_173 ?_
  refine m_sld (i + 5) (by omega) (by omega) dL_law_174 ?_
  refine z_callSX (as := [.ref (1), .int (xs (i + 1)), .int (xs (i + 2)), .int (xs (i + 3)), .int (xs (i + 4)), .int (xs (i + 5))]) (wA_coast c1) ko_L_coast kl_L_93 rfl rfl ⟨by decide, by decide, by show u + 2 ≤ 601024; omega, by show us + 12 ≤ 7293034; omega⟩ (Nat.le_of_ble_eq_true rfl) rfl dL_law_175 ?_
  refine z_istore (by decide) rfl dL_law_178 ?_
  refine z_aload_n rfl rfl dL_law_180 ?_
  refine z_aload_n rfl rfl dL_law_181 ?_
  refine z_iload rfl dL_law_182 ?_
  refine z_iconst (nI 1) (by decide) dL_law_184 ?_
  refine m_addN dL_law_185 ?_
  refine m_sld (i + 1) (by omega) (by omega) dL_law_186 ?_
  refine z_aload_n rfl rfl dL_law_187 ?_
  refine z_iload rfl dL_law_188 ?_
  refine z_iconst (nI 2) (by decide) dL_law_190 ?_
  refine m_addN dL_law_191 ?_
  refine m_sld (i + 2) (by omega) (by omega) dL_law_192 ?_
  refine z_aload_n rfl rfl dL_law_193 ?_
  refine z_iload rfl dL_law_194 ?_
  refine z_iconst (nI 3) (by decide) dL_law_196 ?_
  refine m_addN dL_law_197 ?_
  refine m_sld (i + 3) (by omega) (by omega) dL_law_198 ?_
  refine z_aload_n rfl rfl dL_law_199 ?_
  refine z_iload rfl dL_law_200 ?_
  refine z_iconst (nI 4) (by decide) dL_law_202 ?_
  refine m_addN dL_law_203 ?_
  refine m_sld (i + 4) (by omega) (by omega) dL_law_204 ?_
  refine z_aload_n rfl rfl dL_law_205 ?_
  refine z_iload rfl dL_law_206 ?_
  refine z_iconst (nI 5) (by decide) dL_law_208 ?_
  refine m_addN dL_law_209 ?_
  refine m_sld (i + 5) (by omega) (by omega) dL_law_210 ?_
  refine z_callV (as := [.int (xs (i + 1)), .int (xs (i + 2)), .int (xs (i + 3)), .int (xs (i + 4)), .int (xs (i + 5))]) (c2 _) ko_X8_coast kl_L_98 rfl (zl_a rfl rfl) rfl rfl ⟨by decide, by decide, by show u + 2 ≤ 601024; omega, by show us + 12 ≤ 7293034; omega⟩ (Nat.le_of_ble_eq_true rfl) rfl dL_law_211 ?_
  refine z_aload_n rfl rfl dL_law_214 ?_
  refine z_callV (as := []) (ct_thr c3) ko_X8_thrown kl_L_99 rfl (zl_a rfl rfl) rfl rfl ⟨by decide, by decide, by show u + 2 ≤ 601024; omega, by show us + 12 ≤ 7293034; omega⟩ (Nat.le_of_ble_eq_true rfl) rfl dL_law_215 ?_
  refine z_iload rfl dL_law_218 ?_
  refine z_icmp_eq 225 (by decide) dL_law_220 (fun _ => ?_) (fun h => absurd h (by decide))
  refine z_goto 1835 (by decide) dL_law_225 ?_
  refine z_fgt [.ref (0), .ref (1), .ref (117), .ref (145), .int (nI i), .null, .null] ⟨Or.inl rfl, ⟨Or.inl rfl, ⟨Or.inl rfl, ⟨Or.inl rfl, ⟨Or.inl rfl, ⟨Or.inr rfl, ⟨Or.inl rfl, trivial⟩⟩⟩⟩⟩⟩⟩ ?_
  exact kk _ _ _ (by show u + 2 ≤ u + 8; omega) (by show us + 12 ≤ us + 40; omega)
set_option maxRecDepth 100000 in
set_option maxHeartbeats 4000000 in
theorem lk_coast_S {L i u us : Nat} {xs : Nat → Int32} {μ μ1 μ2 : zMu} {g : Int64} {o : zO} (hi : i + 6 ≤ L) (hL : L ≤ 3072) (hu : u + 8 ≤ 601024) (hus : us + 40 ≤ 7293034) (c1 : zCt (L, xs) kX7_coast [.ref (1), .int (xs (i + 1)), .int (xs (i + 2)), .int (xs (i + 3)), .int (xs (i + 4)), .int (xs (i + 5))] (zm μ g) (.inr xS, zm μ g)) (c2 : ∀ g9, zCt (L, xs) kX8_coast [.ref (117), .int (xs (i + 1)), .int (xs (i + 2)), .int (xs (i + 3)), .int (xs (i + 4)), .int (xs (i + 5))] (zm μ g9) (.inl (none), zm μ2 g9)) (c3 : μ2 117 0 = nI 3) (kk : ∀ g2 u9 us9, u9 ≤ u + 8 → us9 ≤ us + 40 → zV true (L, xs) kL_law 0 o 1835 [.ref (0), .ref (1), .ref (117), .ref (145), .int (nI i), .null, .null] [] (zm μ2 g2) u9 us9) : zV true (L, xs) kL_law 0 o 144 [.ref (0), .ref (1), .ref (117), .ref (145), .int (nI i), .null, .null] [] (zm μ g) u us := by
  refine z_aload_n rfl rfl dL_law_144 ?_
  refine z_aload_n rfl rfl dL_law_145 ?_
  refine z_iload rfl dL_law_146 ?_
  refine z_iconst (nI 1) (by decide) dL_law_148 ?_
  refine m_addN dL_law_149 ?_
  refine m_sld (i + 1) (by omega) (by omega) dL_law_150 ?_
  refine z_aload_n rfl rfl dL_law_151 ?_
  refine z_iload rfl dL_law_152 ?_
  refine z_iconst (nI 2) (by decide) dL_law_154 ?_
  refine m_addN dL_law_155 ?_
  refine m_sld (i + 2) (by omega) (by omega) dL_law_156 ?_
  refine z_aload_n rfl rfl dL_law_157 ?_
  refine z_iload rfl dL_law_158 ?_
  refine z_iconst (nI 3) (by decide) dL_law_160 ?_
  refine m_addN dL_law_161 ?_
  refine m_sld (i + 3) (by omega) (by omega) dL_law_162 ?_
  refine z_aload_n rfl rfl dL_law_163 ?_
  refine z_iload rfl dL_law_164 ?_
  refine z_iconst (nI 4) (by decide) dL_law_166 ?_
  refine m_addN dL_law_167 ?_
  refine m_sld (i + 4) (by omega) (by omega) dL_law_168 ?_
  refine z_aload_n rfl rfl dL_law_169 ?_
  refine z_iload rfl dL_law_170 ?_
  refine z_iconst (nI 5) (by decide) dL_law_172 ?_
  refine m_addN dL_law_173 ?_
  refine m_sld (i + 5) (by omega) (by omega) dL_law_174 ?_
  refine z_callSX (as := [.ref (1), .int (xs (i + 1)), .int (xs (i + 2)), .int (xs (i + 3)), .int (xs (i + 4)), .int (xs (i + 5))]) (wS_coast c1) ko_L_coast kl_L_93 rfl rfl ⟨by decide, by decide, by show u + 2 ≤ 601024; omega, by show us + 12 ≤ 7293034; omega⟩ (Nat.le_of_ble_eq_true rfl) rfl dL_law_175 ?_
  refine z_istore (by decide) rfl dL_law_178 ?_
  refine z_aload_n rfl rfl dL_law_180 ?_
  refine z_aload_n rfl rfl dL_law_181 ?_
  refine z_iload rfl dL_law_182 ?_
  refine z_iconst (nI 1) (by decide) dL_law_184 ?_
  refine m_addN dL_law_185 ?_
  refine m_sld (i + 1) (by omega) (by omega) dL_law_186 ?_
  refine z_aload_n rfl rfl dL_law_187 ?_
  refine z_iload rfl dL_law_188 ?_
  refine z_iconst (nI 2) (by decide) dL_law_190 ?_
  refine m_addN dL_law_191 ?_
  refine m_sld (i + 2) (by omega) (by omega) dL_law_192 ?_
  refine z_aload_n rfl rfl dL_law_193 ?_
  refine z_iload rfl dL_law_194 ?_
  refine z_iconst (nI 3) (by decide) dL_law_196 ?_
  refine m_addN dL_law_197 ?_
  refine m_sld (i + 3) (by omega) (by omega) dL_law_198 ?_
  refine z_aload_n rfl rfl dL_law_199 ?_
  refine z_iload rfl dL_law_200 ?_
  refine z_iconst (nI 4) (by decide) dL_law_202 ?_
  refine m_addN dL_law_203 ?_
  refine m_sld (i + 4) (by omega) (by omega) dL_law_204 ?_
  refine z_aload_n rfl rfl dL_law_205 ?_
  refine z_iload rfl dL_law_206 ?_
  refine z_iconst (nI 5) (by decide) dL_law_208 ?_
  refine m_addN dL_law_209 ?_
  refine m_sld (i + 5) (by omega) (by omega) dL_law_210 ?_
  refine z_callV (as := [.int (xs (i + 1)), .int (xs (i + 2)), .int (xs (i + 3)), .int (xs (i + 4)), .int (xs (i + 5))]) (c2 _) ko_X8_coast kl_L_98 rfl (zl_a rfl rfl) rfl rfl ⟨by decide, by decide, by show u + 2 ≤ 601024; omega, by show us + 12 ≤ 7293034; omega⟩ (Nat.le_of_ble_eq_true rfl) rfl dL_law_211 ?_
  refine z_aload_n rfl rfl dL_law_214 ?_
  refine z_callV (as := []) (ct_thr c3) ko_X8_thrown kl_L_99 rfl (zl_a rfl rfl) rfl rfl ⟨by decide, by decide, by show u + 2 ≤ 601024; omega, by show us + 12 ≤ 7293034; omega⟩ (Nat.le_of_ble_eq_true rfl) rfl dL_law_215 ?_
  refine z_iload rfl dL_law_218 ?_
  refine z_icmp_eq 225 (by decide) dL_law_220 (fun _ => ?_) (fun h => absurd h (by decide))
  refine z_goto 1835 (by decide) dL_law_225 ?_
  refine z_fgt [.ref (0), .ref (1), .ref (117), .ref (145), .int (nI i), .null, .null] ⟨Or.inl rfl, ⟨Or.inl rfl, ⟨Or.inl rfl, ⟨Or.inl rfl, ⟨Or.inl rfl, ⟨Or.inr rfl, ⟨Or.inl rfl, trivial⟩⟩⟩⟩⟩⟩⟩ ?_
  exact kk _ _ _ (by show u + 2 ≤ u + 8; omega) (by show us + 12 ≤ us + 40; omega)
set_option maxRecDepth 100000 in
set_option maxHeartbeats 4000000 in
theorem lk_pilot_ok {L i u us : Nat} {xs : Nat → Int32} {μ μ1 μ2 : zMu} {g : Int64} {v : Int32} {o : zO} (hi : i + 6 ≤ L) (hL : L ≤ 3072) (hu : u + 8 ≤ 601024) (hus : us + 40 ≤ 7293034) (c1 : zCt (L, xs) kX7_pilot [.ref (1), .int (xs (i + 1)), .int (xs (i + 2))] (zm μ g) (.inl (some (.int v)), zm μ1 g)) (c2 : ∀ g9, zCt (L, xs) kX8_pilot [.ref (117), .int (xs (i + 1)), .int (xs (i + 2))] (zm μ1 g9) (.inl (some (.int v)), zm μ2 g9)) (c3 : μ2 117 0 = nI 0) (kk : ∀ g2 u9 us9, u9 ≤ u + 8 → us9 ≤ us + 40 → zV true (L, xs) kL_law 0 o 1835 [.ref (0), .ref (1), .ref (117), .ref (145), .int (nI i), .null, .null] [] (zm μ2 g2) u9 us9) : zV true (L, xs) kL_law 0 o 228 [.ref (0), .ref (1), .ref (117), .ref (145), .int (nI i), .null, .null] [] (zm μ g) u us := by
  refine z_aload_n rfl rfl dL_law_228 ?_
  refine z_aload_n rfl rfl dL_law_229 ?_
  refine z_iload rfl dL_law_230 ?_
  refine z_iconst (nI 1) (by decide) dL_law_232 ?_
  refine m_addN dL_law_233 ?_
  refine m_sld (i + 1) (by omega) (by omega) dL_law_234 ?_
  refine z_aload_n rfl rfl dL_law_235 ?_
  refine z_iload rfl dL_law_236 ?_
  refine z_iconst (nI 2) (by decide) dL_law_238 ?_
  refine m_addN dL_law_239 ?_
  refine m_sld (i + 2) (by omega) (by omega) dL_law_240 ?_
  refine z_aload_n rfl rfl dL_law_241 ?_
  refine z_callSX (as := [.ref (1), .int (xs (i + 1)), .int (xs (i + 2)), .ref (145)]) (w_pilot c1) ko_L_pilot kl_L_103 rfl rfl ⟨by decide, by decide, by show u + 1 ≤ 601024; omega, by show us + 6 ≤ 7293034; omega⟩ (Nat.le_of_ble_eq_true rfl) rfl dL_law_242 ?_
  refine z_istore (by decide) rfl dL_law_245 ?_
  refine z_aload_n rfl rfl dL_law_247 ?_
  refine z_aload_n rfl rfl dL_law_248 ?_
  refine z_iload rfl dL_law_249 ?_
  refine z_iconst (nI 1) (by decide) dL_law_251 ?_
  refine m_addN dL_law_252 ?_
  refine m_sld (i + 1) (by omega) (by omega) dL_law_253 ?_
  refine z_aload_n rfl rfl dL_law_254 ?_
  refine z_iload rfl dL_law_255 ?_
  refine z_iconst (nI 2) (by decide) dL_law_257 ?_
  refine m_addN dL_law_258 ?_
  refine m_sld (i + 2) (by omega) (by omega) dL_law_259 ?_
  refine z_callV (as := [.int (xs (i + 1)), .int (xs (i + 2))]) (c2 _) ko_X8_pilot kl_L_106 rfl (zl_a rfl rfl) rfl rfl ⟨by decide, by decide, by show u + 1 ≤ 601024; omega, by show us + 6 ≤ 7293034; omega⟩ (Nat.le_of_ble_eq_true rfl) rfl dL_law_260 ?_
  refine z_istore (by decide) rfl dL_law_263 ?_
  refine z_aload_n rfl rfl dL_law_265 ?_
  refine z_callV (as := []) (ct_thr c3) ko_X8_thrown kl_L_99 rfl (zl_a rfl rfl) rfl rfl ⟨by decide, by decide, by show u + 1 ≤ 601024; omega, by show us + 6 ≤ 7293034; omega⟩ (Nat.le_of_ble_eq_true rfl) rfl dL_law_266 ?_
  refine z_iload rfl dL_law_269 ?_
  refine z_icmp_eq 276 (by decide) dL_law_271 (fun _ => ?_) (fun h => absurd h (by decide))
  refine z_iload rfl dL_law_276 ?_
  refine z_if_ne 293 (by decide) dL_law_278 (fun h => absurd h (by decide)) (fun _ => ?_)
  refine z_aload_n rfl rfl dL_law_281 ?_
  refine z_iconst (nI 0) (by decide) dL_law_282 ?_
  refine z_lald (zl_a rfl rfl) (vp_in_nI (by decide) (by decide)) dL_law_283 ?_
  refine z_iload rfl dL_law_284 ?_
  refine z_i2l dL_law_286 ?_
  refine z_lcmp dL_law_287 ?_
  refine m_eqv (w := nI 0) (lg_self _) ?_
  refine z_if_eq 293 (by decide) dL_law_288 (fun _ => ?_) (fun h => absurd h (by decide))
  refine z_goto 1835 (by decide) dL_law_293 ?_
  refine z_fgt [.ref (0), .ref (1), .ref (117), .ref (145), .int (nI i), .null, .null] ⟨Or.inl rfl, ⟨Or.inl rfl, ⟨Or.inl rfl, ⟨Or.inl rfl, ⟨Or.inl rfl, ⟨Or.inr rfl, ⟨Or.inr rfl, trivial⟩⟩⟩⟩⟩⟩⟩ ?_
  exact kk _ _ _ (by show u + 1 ≤ u + 8; omega) (by show us + 6 ≤ us + 40; omega)
set_option maxRecDepth 100000 in
set_option maxHeartbeats 4000000 in
theorem lk_pilot_A {L i u us : Nat} {xs : Nat → Int32} {μ μ1 μ2 : zMu} {g : Int64} {w : Int32} {o : zO} (hi : i + 6 ≤ L) (hL : L ≤ 3072) (hu : u + 8 ≤ 601024) (hus : us + 40 ≤ 7293034) (c1 : zCt (L, xs) kX7_pilot [.ref (1), .int (xs (i + 1)), .int (xs (i + 2))] (zm μ g) (.inr xA, zm μ g)) (c2 : ∀ g9, zCt (L, xs) kX8_pilot [.ref (117), .int (xs (i + 1)), .int (xs (i + 2))] (zm μ g9) (.inl (some (.int w)), zm μ2 g9)) (c3 : μ2 117 0 = nI 1) (kk : ∀ g2 u9 us9, u9 ≤ u + 8 → us9 ≤ us + 40 → zV true (L, xs) kL_law 0 o 1835 [.ref (0), .ref (1), .ref (117), .ref (145), .int (nI i), .null, .null] [] (zm μ2 g2) u9 us9) : zV true (L, xs) kL_law 0 o 228 [.ref (0), .ref (1), .ref (117), .ref (145), .int (nI i), .null, .null] [] (zm μ g) u us := by
  refine z_aload_n rfl rfl dL_law_228 ?_
  refine z_aload_n rfl rfl dL_law_229 ?_
  refine z_iload rfl dL_law_230 ?_
  refine z_iconst (nI 1) (by decide) dL_law_232 ?_
  refine m_addN dL_law_233 ?_
  refine m_sld (i + 1) (by omega) (by omega) dL_law_234 ?_
  refine z_aload_n rfl rfl dL_law_235 ?_
  refine z_iload rfl dL_law_236 ?_
  refine z_iconst (nI 2) (by decide) dL_law_238 ?_
  refine m_addN dL_law_239 ?_
  refine m_sld (i + 2) (by omega) (by omega) dL_law_240 ?_
  refine z_aload_n rfl rfl dL_law_241 ?_
  refine z_callSX (as := [.ref (1), .int (xs (i + 1)), .int (xs (i + 2)), .ref (145)]) (wA_pilot c1) ko_L_pilot kl_L_103 rfl rfl ⟨by decide, by decide, by show u + 1 ≤ 601024; omega, by show us + 6 ≤ 7293034; omega⟩ (Nat.le_of_ble_eq_true rfl) rfl dL_law_242 ?_
  refine z_istore (by decide) rfl dL_law_245 ?_
  refine z_aload_n rfl rfl dL_law_247 ?_
  refine z_aload_n rfl rfl dL_law_248 ?_
  refine z_iload rfl dL_law_249 ?_
  refine z_iconst (nI 1) (by decide) dL_law_251 ?_
  refine m_addN dL_law_252 ?_
  refine m_sld (i + 1) (by omega) (by omega) dL_law_253 ?_
  refine z_aload_n rfl rfl dL_law_254 ?_
  refine z_iload rfl dL_law_255 ?_
  refine z_iconst (nI 2) (by decide) dL_law_257 ?_
  refine m_addN dL_law_258 ?_
  refine m_sld (i + 2) (by omega) (by omega) dL_law_259 ?_
  refine z_callV (as := [.int (xs (i + 1)), .int (xs (i + 2))]) (c2 _) ko_X8_pilot kl_L_106 rfl (zl_a rfl rfl) rfl rfl ⟨by decide, by decide, by show u + 1 ≤ 601024; omega, by show us + 6 ≤ 7293034; omega⟩ (Nat.le_of_ble_eq_true rfl) rfl dL_law_260 ?_
  refine z_istore (by decide) rfl dL_law_263 ?_
  refine z_aload_n rfl rfl dL_law_265 ?_
  refine z_callV (as := []) (ct_thr c3) ko_X8_thrown kl_L_99 rfl (zl_a rfl rfl) rfl rfl ⟨by decide, by decide, by show u + 1 ≤ 601024; omega, by show us + 6 ≤ 7293034; omega⟩ (Nat.le_of_ble_eq_true rfl) rfl dL_law_266 ?_
  refine z_iload rfl dL_law_269 ?_
  refine z_icmp_eq 276 (by decide) dL_law_271 (fun _ => ?_) (fun h => absurd h (by decide))
  refine z_iload rfl dL_law_276 ?_
  refine z_if_ne 293 (by decide) dL_law_278 (fun _ => ?_) (fun h => absurd h (by decide))
  refine z_goto 1835 (by decide) dL_law_293 ?_
  refine z_fgt [.ref (0), .ref (1), .ref (117), .ref (145), .int (nI i), .null, .null] ⟨Or.inl rfl, ⟨Or.inl rfl, ⟨Or.inl rfl, ⟨Or.inl rfl, ⟨Or.inl rfl, ⟨Or.inr rfl, ⟨Or.inr rfl, trivial⟩⟩⟩⟩⟩⟩⟩ ?_
  exact kk _ _ _ (by show u + 1 ≤ u + 8; omega) (by show us + 6 ≤ us + 40; omega)
set_option maxRecDepth 100000 in
set_option maxHeartbeats 4000000 in
theorem lk_pilot_S {L i u us : Nat} {xs : Nat → Int32} {μ μ1 μ2 : zMu} {g : Int64} {w : Int32} {o : zO} (hi : i + 6 ≤ L) (hL : L ≤ 3072) (hu : u + 8 ≤ 601024) (hus : us + 40 ≤ 7293034) (c1 : zCt (L, xs) kX7_pilot [.ref (1), .int (xs (i + 1)), .int (xs (i + 2))] (zm μ g) (.inr xS, zm μ g)) (c2 : ∀ g9, zCt (L, xs) kX8_pilot [.ref (117), .int (xs (i + 1)), .int (xs (i + 2))] (zm μ g9) (.inl (some (.int w)), zm μ2 g9)) (c3 : μ2 117 0 = nI 2) (kk : ∀ g2 u9 us9, u9 ≤ u + 8 → us9 ≤ us + 40 → zV true (L, xs) kL_law 0 o 1835 [.ref (0), .ref (1), .ref (117), .ref (145), .int (nI i), .null, .null] [] (zm μ2 g2) u9 us9) : zV true (L, xs) kL_law 0 o 228 [.ref (0), .ref (1), .ref (117), .ref (145), .int (nI i), .null, .null] [] (zm μ g) u us := by
  refine z_aload_n rfl rfl dL_law_228 ?_
  refine z_aload_n rfl rfl dL_law_229 ?_
  refine z_iload rfl dL_law_230 ?_
  refine z_iconst (nI 1) (by decide) dL_law_232 ?_
  refine m_addN dL_law_233 ?_
  refine m_sld (i + 1) (by omega) (by omega) dL_law_234 ?_
  refine z_aload_n rfl rfl dL_law_235 ?_
  refine z_iload rfl dL_law_236 ?_
  refine z_iconst (nI 2) (by decide) dL_law_238 ?_
  refine m_addN dL_law_239 ?_
  refine m_sld (i + 2) (by omega) (by omega) dL_law_240 ?_
  refine z_aload_n rfl rfl dL_law_241 ?_
  refine z_callSX (as := [.ref (1), .int (xs (i + 1)), .int (xs (i + 2)), .ref (145)]) (wS_pilot c1) ko_L_pilot kl_L_103 rfl rfl ⟨by decide, by decide, by show u + 1 ≤ 601024; omega, by show us + 6 ≤ 7293034; omega⟩ (Nat.le_of_ble_eq_true rfl) rfl dL_law_242 ?_
  refine z_istore (by decide) rfl dL_law_245 ?_
  refine z_aload_n rfl rfl dL_law_247 ?_
  refine z_aload_n rfl rfl dL_law_248 ?_
  refine z_iload rfl dL_law_249 ?_
  refine z_iconst (nI 1) (by decide) dL_law_251 ?_
  refine m_addN dL_law_252 ?_
  refine m_sld (i + 1) (by omega) (by omega) dL_law_253 ?_
  refine z_aload_n rfl rfl dL_law_254 ?_
  refine z_iload rfl dL_law_255 ?_
  refine z_iconst (nI 2) (by decide) dL_law_257 ?_
  refine m_addN dL_law_258 ?_
  refine m_sld (i + 2) (by omega) (by omega) dL_law_259 ?_
  refine z_callV (as := [.int (xs (i + 1)), .int (xs (i + 2))]) (c2 _) ko_X8_pilot kl_L_106 rfl (zl_a rfl rfl) rfl rfl ⟨by decide, by decide, by show u + 1 ≤ 601024; omega, by show us + 6 ≤ 7293034; omega⟩ (Nat.le_of_ble_eq_true rfl) rfl dL_law_260 ?_
  refine z_istore (by decide) rfl dL_law_263 ?_
  refine z_aload_n rfl rfl dL_law_265 ?_
  refine z_callV (as := []) (ct_thr c3) ko_X8_thrown kl_L_99 rfl (zl_a rfl rfl) rfl rfl ⟨by decide, by decide, by show u + 1 ≤ 601024; omega, by show us + 6 ≤ 7293034; omega⟩ (Nat.le_of_ble_eq_true rfl) rfl dL_law_266 ?_
  refine z_iload rfl dL_law_269 ?_
  refine z_icmp_eq 276 (by decide) dL_law_271 (fun _ => ?_) (fun h => absurd h (by decide))
  refine z_iload rfl dL_law_276 ?_
  refine z_if_ne 293 (by decide) dL_law_278 (fun _ => ?_) (fun h => absurd h (by decide))
  refine z_goto 1835 (by decide) dL_law_293 ?_
  refine z_fgt [.ref (0), .ref (1), .ref (117), .ref (145), .int (nI i), .null, .null] ⟨Or.inl rfl, ⟨Or.inl rfl, ⟨Or.inl rfl, ⟨Or.inl rfl, ⟨Or.inl rfl, ⟨Or.inr rfl, ⟨Or.inr rfl, trivial⟩⟩⟩⟩⟩⟩⟩ ?_
  exact kk _ _ _ (by show u + 1 ≤ u + 8; omega) (by show us + 6 ≤ us + 40; omega)
set_option maxRecDepth 100000 in
set_option maxHeartbeats 4000000 in
theorem lk_report_ok {L i u us : Nat} {xs : Nat → Int32} {μ μ1 μ2 : zMu} {g : Int64} {v : Int32} {o : zO} (hi : i + 6 ≤ L) (hL : L ≤ 3072) (hu : u + 8 ≤ 601024) (hus : us + 40 ≤ 7293034) (c1 : zCt (L, xs) kX7_report [.ref (1), .int (xs (i + 1)), .int (xs (i + 2)), .int (xs (i + 3))] (zm μ g) (.inl (some (.int v)), zm μ1 g)) (c2 : ∀ g9, zCt (L, xs) kX8_report [.ref (117), .int (xs (i + 1)), .int (xs (i + 2)), .int (xs (i + 3))] (zm μ1 g9) (.inl (some (.int v)), zm μ2 g9)) (c3 : μ2 117 0 = nI 0) (kk : ∀ g2 u9 us9, u9 ≤ u + 8 → us9 ≤ us + 40 → zV true (L, xs) kL_law 0 o 1835 [.ref (0), .ref (1), .ref (117), .ref (145), .int (nI i), .null, .null] [] (zm μ2 g2) u9 us9) : zV true (L, xs) kL_law 0 o 296 [.ref (0), .ref (1), .ref (117), .ref (145), .int (nI i), .null, .null] [] (zm μ g) u us := by
  refine z_aload_n rfl rfl dL_law_296 ?_
  refine z_aload_n rfl rfl dL_law_297 ?_
  refine z_iload rfl dL_law_298 ?_
  refine z_iconst (nI 1) (by decide) dL_law_300 ?_
  refine m_addN dL_law_301 ?_
  refine m_sld (i + 1) (by omega) (by omega) dL_law_302 ?_
  refine z_aload_n rfl rfl dL_law_303 ?_
  refine z_iload rfl dL_law_304 ?_
  refine z_iconst (nI 2) (by decide) dL_law_306 ?_
  refine m_addN dL_law_307 ?_
  refine m_sld (i + 2) (by omega) (by omega) dL_law_308 ?_
  refine z_aload_n rfl rfl dL_law_309 ?_
  refine z_iload rfl dL_law_310 ?_
  refine z_iconst (nI 3) (by decide) dL_law_312 ?_
  refine m_addN dL_law_313 ?_
  refine m_sld (i + 3) (by omega) (by omega) dL_law_314 ?_
  refine z_aload_n rfl rfl dL_law_315 ?_
  refine z_callSX (as := [.ref (1), .int (xs (i + 1)), .int (xs (i + 2)), .int (xs (i + 3)), .ref (145)]) (w_report c1) ko_L_report kl_L_107 rfl rfl ⟨by decide, by decide, by show u + 3 ≤ 601024; omega, by show us + 18 ≤ 7293034; omega⟩ (Nat.le_of_ble_eq_true rfl) rfl dL_law_316 ?_
  refine z_istore (by decide) rfl dL_law_319 ?_
  refine z_aload_n rfl rfl dL_law_321 ?_
  refine z_aload_n rfl rfl dL_law_322 ?_
  refine z_iload rfl dL_law_323 ?_
  refine z_iconst (nI 1) (by decide) dL_law_325 ?_
  refine m_addN dL_law_326 ?_
  refine m_sld (i + 1) (by omega) (by omega) dL_law_327 ?_
  refine z_aload_n rfl rfl dL_law_328 ?_
  refine z_iload rfl dL_law_329 ?_
  refine z_iconst (nI 2) (by decide) dL_law_331 ?_
  refine m_addN dL_law_332 ?_
  refine m_sld (i + 2) (by omega) (by omega) dL_law_333 ?_
  refine z_aload_n rfl rfl dL_law_334 ?_
  refine z_iload rfl dL_law_335 ?_
  refine z_iconst (nI 3) (by decide) dL_law_337 ?_
  refine m_addN dL_law_338 ?_
  refine m_sld (i + 3) (by omega) (by omega) dL_law_339 ?_
  refine z_callV (as := [.int (xs (i + 1)), .int (xs (i + 2)), .int (xs (i + 3))]) (c2 _) ko_X8_report kl_L_110 rfl (zl_a rfl rfl) rfl rfl ⟨by decide, by decide, by show u + 3 ≤ 601024; omega, by show us + 18 ≤ 7293034; omega⟩ (Nat.le_of_ble_eq_true rfl) rfl dL_law_340 ?_
  refine z_istore (by decide) rfl dL_law_343 ?_
  refine z_aload_n rfl rfl dL_law_345 ?_
  refine z_callV (as := []) (ct_thr c3) ko_X8_thrown kl_L_99 rfl (zl_a rfl rfl) rfl rfl ⟨by decide, by decide, by show u + 3 ≤ 601024; omega, by show us + 18 ≤ 7293034; omega⟩ (Nat.le_of_ble_eq_true rfl) rfl dL_law_346 ?_
  refine z_iload rfl dL_law_349 ?_
  refine z_icmp_eq 356 (by decide) dL_law_351 (fun _ => ?_) (fun h => absurd h (by decide))
  refine z_iload rfl dL_law_356 ?_
  refine z_if_ne 373 (by decide) dL_law_358 (fun h => absurd h (by decide)) (fun _ => ?_)
  refine z_aload_n rfl rfl dL_law_361 ?_
  refine z_iconst (nI 0) (by decide) dL_law_362 ?_
  refine z_lald (zl_a rfl rfl) (vp_in_nI (by decide) (by decide)) dL_law_363 ?_
  refine z_iload rfl dL_law_364 ?_
  refine z_i2l dL_law_366 ?_
  refine z_lcmp dL_law_367 ?_
  refine m_eqv (w := nI 0) (lg_self _) ?_
  refine z_if_eq 373 (by decide) dL_law_368 (fun _ => ?_) (fun h => absurd h (by decide))
  refine z_goto 1835 (by decide) dL_law_373 ?_
  refine z_fgt [.ref (0), .ref (1), .ref (117), .ref (145), .int (nI i), .null, .null] ⟨Or.inl rfl, ⟨Or.inl rfl, ⟨Or.inl rfl, ⟨Or.inl rfl, ⟨Or.inl rfl, ⟨Or.inr rfl, ⟨Or.inr rfl, trivial⟩⟩⟩⟩⟩⟩⟩ ?_
  exact kk _ _ _ (by show u + 3 ≤ u + 8; omega) (by show us + 18 ≤ us + 40; omega)
set_option maxRecDepth 100000 in
set_option maxHeartbeats 4000000 in
theorem lk_report_I {L i u us : Nat} {xs : Nat → Int32} {μ μ1 μ2 : zMu} {g : Int64} {w : Int32} {o : zO} (hi : i + 6 ≤ L) (hL : L ≤ 3072) (hu : u + 8 ≤ 601024) (hus : us + 40 ≤ 7293034) (c1 : zCt (L, xs) kX7_report [.ref (1), .int (xs (i + 1)), .int (xs (i + 2)), .int (xs (i + 3))] (zm μ g) (.inr xI, zm μ g)) (c2 : ∀ g9, zCt (L, xs) kX8_report [.ref (117), .int (xs (i + 1)), .int (xs (i + 2)), .int (xs (i + 3))] (zm μ g9) (.inl (some (.int w)), zm μ2 g9)) (c3 : μ2 117 0 = nI 1) (kk : ∀ g2 u9 us9, u9 ≤ u + 8 → us9 ≤ us + 40 → zV true (L, xs) kL_law 0 o 1835 [.ref (0), .ref (1), .ref (117), .ref (145), .int (nI i), .null, .null] [] (zm μ2 g2) u9 us9) : zV true (L, xs) kL_law 0 o 296 [.ref (0), .ref (1), .ref (117), .ref (145), .int (nI i), .null, .null] [] (zm μ g) u us := by
  refine z_aload_n rfl rfl dL_law_296 ?_
  refine z_aload_n rfl rfl dL_law_297 ?_
  refine z_iload rfl dL_law_298 ?_
  refine z_iconst (nI 1) (by decide) dL_law_300 ?_
  refine m_addN dL_law_301 ?_
  refine m_sld (i + 1) (by omega) (by omega) dL_law_302 ?_
  refine z_aload_n rfl rfl dL_law_303 ?_
  refine z_iload rfl dL_law_304 ?_
  refine z_iconst (nI 2) (by decide) dL_law_306 ?_
  refine m_addN dL_law_307 ?_
  refine m_sld (i + 2) (by omega) (by omega) dL_law_308 ?_
  refine z_aload_n rfl rfl dL_law_309 ?_
  refine z_iload rfl dL_law_310 ?_
  refine z_iconst (nI 3) (by decide) dL_law_312 ?_
  refine m_addN dL_law_313 ?_
  refine m_sld (i + 3) (by omega) (by omega) dL_law_314 ?_
  refine z_aload_n rfl rfl dL_law_315 ?_
  refine z_callSX (as := [.ref (1), .int (xs (i + 1)), .int (xs (i + 2)), .int (xs (i + 3)), .ref (145)]) (wI_report c1) ko_L_report kl_L_107 rfl rfl ⟨by decide, by decide, by show u + 3 ≤ 601024; omega, by show us + 18 ≤ 7293034; omega⟩ (Nat.le_of_ble_eq_true rfl) rfl dL_law_316 ?_
  refine z_istore (by decide) rfl dL_law_319 ?_
  refine z_aload_n rfl rfl dL_law_321 ?_
  refine z_aload_n rfl rfl dL_law_322 ?_
  refine z_iload rfl dL_law_323 ?_
  refine z_iconst (nI 1) (by decide) dL_law_325 ?_
  refine m_addN dL_law_326 ?_
  refine m_sld (i + 1) (by omega) (by omega) dL_law_327 ?_
  refine z_aload_n rfl rfl dL_law_328 ?_
  refine z_iload rfl dL_law_329 ?_
  refine z_iconst (nI 2) (by decide) dL_law_331 ?_
  refine m_addN dL_law_332 ?_
  refine m_sld (i + 2) (by omega) (by omega) dL_law_333 ?_
  refine z_aload_n rfl rfl dL_law_334 ?_
  refine z_iload rfl dL_law_335 ?_
  refine z_iconst (nI 3) (by decide) dL_law_337 ?_
  refine m_addN dL_law_338 ?_
  refine m_sld (i + 3) (by omega) (by omega) dL_law_339 ?_
  refine z_callV (as := [.int (xs (i + 1)), .int (xs (i + 2)), .int (xs (i + 3))]) (c2 _) ko_X8_report kl_L_110 rfl (zl_a rfl rfl) rfl rfl ⟨by decide, by decide, by show u + 3 ≤ 601024; omega, by show us + 18 ≤ 7293034; omega⟩ (Nat.le_of_ble_eq_true rfl) rfl dL_law_340 ?_
  refine z_istore (by decide) rfl dL_law_343 ?_
  refine z_aload_n rfl rfl dL_law_345 ?_
  refine z_callV (as := []) (ct_thr c3) ko_X8_thrown kl_L_99 rfl (zl_a rfl rfl) rfl rfl ⟨by decide, by decide, by show u + 3 ≤ 601024; omega, by show us + 18 ≤ 7293034; omega⟩ (Nat.le_of_ble_eq_true rfl) rfl dL_law_346 ?_
  refine z_iload rfl dL_law_349 ?_
  refine z_icmp_eq 356 (by decide) dL_law_351 (fun _ => ?_) (fun h => absurd h (by decide))
  refine z_iload rfl dL_law_356 ?_
  refine z_if_ne 373 (by decide) dL_law_358 (fun _ => ?_) (fun h => absurd h (by decide))
  refine z_goto 1835 (by decide) dL_law_373 ?_
  refine z_fgt [.ref (0), .ref (1), .ref (117), .ref (145), .int (nI i), .null, .null] ⟨Or.inl rfl, ⟨Or.inl rfl, ⟨Or.inl rfl, ⟨Or.inl rfl, ⟨Or.inl rfl, ⟨Or.inr rfl, ⟨Or.inr rfl, trivial⟩⟩⟩⟩⟩⟩⟩ ?_
  exact kk _ _ _ (by show u + 3 ≤ u + 8; omega) (by show us + 18 ≤ us + 40; omega)
set_option maxRecDepth 100000 in
set_option maxHeartbeats 4000000 in
theorem lk_report_A {L i u us : Nat} {xs : Nat → Int32} {μ μ1 μ2 : zMu} {g : Int64} {w : Int32} {o : zO} (hi : i + 6 ≤ L) (hL : L ≤ 3072) (hu : u + 8 ≤ 601024) (hus : us + 40 ≤ 7293034) (c1 : zCt (L, xs) kX7_report [.ref (1), .int (xs (i + 1)), .int (xs (i + 2)), .int (xs (i + 3))] (zm μ g) (.inr xA, zm μ g)) (c2 : ∀ g9, zCt (L, xs) kX8_report [.ref (117), .int (xs (i + 1)), .int (xs (i + 2)), .int (xs (i + 3))] (zm μ g9) (.inl (some (.int w)), zm μ2 g9)) (c3 : μ2 117 0 = nI 2) (kk : ∀ g2 u9 us9, u9 ≤ u + 8 → us9 ≤ us + 40 → zV true (L, xs) kL_law 0 o 1835 [.ref (0), .ref (1), .ref (117), .ref (145), .int (nI i), .null, .null] [] (zm μ2 g2) u9 us9) : zV true (L, xs) kL_law 0 o 296 [.ref (0), .ref (1), .ref (117), .ref (145), .int (nI i), .null, .null] [] (zm μ g) u us := by
  refine z_aload_n rfl rfl dL_law_296 ?_
  refine z_aload_n rfl rfl dL_law_297 ?_
  refine z_iload rfl dL_law_298 ?_
  refine z_iconst (nI 1) (by decide) dL_law_300 ?_
  refine m_addN dL_law_301 ?_
  refine m_sld (i + 1) (by omega) (by omega) dL_law_302 ?_
  refine z_aload_n rfl rfl dL_law_303 ?_
  refine z_iload rfl dL_law_304 ?_
  refine z_iconst (nI 2) (by decide) dL_law_306 ?_
  refine m_addN dL_law_307 ?_
  refine m_sld (i + 2) (by omega) (by omega) dL_law_308 ?_
  refine z_aload_n rfl rfl dL_law_309 ?_
  refine z_iload rfl dL_law_310 ?_
  refine z_iconst (nI 3) (by decide) dL_law_312 ?_
  refine m_addN dL_law_313 ?_
  refine m_sld (i + 3) (by omega) (by omega) dL_law_314 ?_
  refine z_aload_n rfl rfl dL_law_315 ?_
  refine z_callSX (as := [.ref (1), .int (xs (i + 1)), .int (xs (i + 2)), .int (xs (i + 3)), .ref (145)]) (wA_report c1) ko_L_report kl_L_107 rfl rfl ⟨by decide, by decide, by show u + 3 ≤ 601024; omega, by show us + 18 ≤ 7293034; omega⟩ (Nat.le_of_ble_eq_true rfl) rfl dL_law_316 ?_
  refine z_istore (by decide) rfl dL_law_319 ?_
  refine z_aload_n rfl rfl dL_law_321 ?_
  refine z_aload_n rfl rfl dL_law_322 ?_
  refine z_iload rfl dL_law_323 ?_
  refine z_iconst (nI 1) (by decide) dL_law_325 ?_
  refine m_addN dL_law_326 ?_
  refine m_sld (i + 1) (by omega) (by omega) dL_law_327 ?_
  refine z_aload_n rfl rfl dL_law_328 ?_
  refine z_iload rfl dL_law_329 ?_
  refine z_iconst (nI 2) (by decide) dL_law_331 ?_
  refine m_addN dL_law_332 ?_
  refine m_sld (i + 2) (by omega) (by omega) dL_law_333 ?_
  refine z_aload_n rfl rfl dL_law_334 ?_
  refine z_iload rfl dL_law_335 ?_
  refine z_iconst (nI 3) (by decide) dL_law_337 ?_
  refine m_addN dL_law_338 ?_
  refine m_sld (i + 3) (by omega) (by omega) dL_law_339 ?_
  refine z_callV (as := [.int (xs (i + 1)), .int (xs (i + 2)), .int (xs (i + 3))]) (c2 _) ko_X8_report kl_L_110 rfl (zl_a rfl rfl) rfl rfl ⟨by decide, by decide, by show u + 3 ≤ 601024; omega, by show us + 18 ≤ 7293034; omega⟩ (Nat.le_of_ble_eq_true rfl) rfl dL_law_340 ?_
  refine z_istore (by decide) rfl dL_law_343 ?_
  refine z_aload_n rfl rfl dL_law_345 ?_
  refine z_callV (as := []) (ct_thr c3) ko_X8_thrown kl_L_99 rfl (zl_a rfl rfl) rfl rfl ⟨by decide, by decide, by show u + 3 ≤ 601024; omega, by show us + 18 ≤ 7293034; omega⟩ (Nat.le_of_ble_eq_true rfl) rfl dL_law_346 ?_
  refine z_iload rfl dL_law_349 ?_
  refine z_icmp_eq 356 (by decide) dL_law_351 (fun _ => ?_) (fun h => absurd h (by decide))
  refine z_iload rfl dL_law_356 ?_
  refine z_if_ne 373 (by decide) dL_law_358 (fun _ => ?_) (fun h => absurd h (by decide))
  refine z_goto 1835 (by decide) dL_law_373 ?_
  refine z_fgt [.ref (0), .ref (1), .ref (117), .ref (145), .int (nI i), .null, .null] ⟨Or.inl rfl, ⟨Or.inl rfl, ⟨Or.inl rfl, ⟨Or.inl rfl, ⟨Or.inl rfl, ⟨Or.inr rfl, ⟨Or.inr rfl, trivial⟩⟩⟩⟩⟩⟩⟩ ?_
  exact kk _ _ _ (by show u + 3 ≤ u + 8; omega) (by show us + 18 ≤ us + 40; omega)
set_option maxRecDepth 100000 in
set_option maxHeartbeats 4000000 in
theorem lk_report_S {L i u us : Nat} {xs : Nat → Int32} {μ μ1 μ2 : zMu} {g : Int64} {w : Int32} {o : zO} (hi : i + 6 ≤ L) (hL : L ≤ 3072) (hu : u + 8 ≤ 601024) (hus : us + 40 ≤ 7293034) (c1 : zCt (L, xs) kX7_report [.ref (1), .int (xs (i + 1)), .int (xs (i + 2)), .int (xs (i + 3))] (zm μ g) (.inr xS, zm μ g)) (c2 : ∀ g9, zCt (L, xs) kX8_report [.ref (117), .int (xs (i + 1)), .int (xs (i + 2)), .int (xs (i + 3))] (zm μ g9) (.inl (some (.int w)), zm μ2 g9)) (c3 : μ2 117 0 = nI 3) (kk : ∀ g2 u9 us9, u9 ≤ u + 8 → us9 ≤ us + 40 → zV true (L, xs) kL_law 0 o 1835 [.ref (0), .ref (1), .ref (117), .ref (145), .int (nI i), .null, .null] [] (zm μ2 g2) u9 us9) : zV true (L, xs) kL_law 0 o 296 [.ref (0), .ref (1), .ref (117), .ref (145), .int (nI i), .null, .null] [] (zm μ g) u us := by
  refine z_aload_n rfl rfl dL_law_296 ?_
  refine z_aload_n rfl rfl dL_law_297 ?_
  refine z_iload rfl dL_law_298 ?_
  refine z_iconst (nI 1) (by decide) dL_law_300 ?_
  refine m_addN dL_law_301 ?_
  refine m_sld (i + 1) (by omega) (by omega) dL_law_302 ?_
  refine z_aload_n rfl rfl dL_law_303 ?_
  refine z_iload rfl dL_law_304 ?_
  refine z_iconst (nI 2) (by decide) dL_law_306 ?_
  refine m_addN dL_law_307 ?_
  refine m_sld (i + 2) (by omega) (by omega) dL_law_308 ?_
  refine z_aload_n rfl rfl dL_law_309 ?_
  refine z_iload rfl dL_law_310 ?_
  refine z_iconst (nI 3) (by decide) dL_law_312 ?_
  refine m_addN dL_law_313 ?_
  refine m_sld (i + 3) (by omega) (by omega) dL_law_314 ?_
  refine z_aload_n rfl rfl dL_law_315 ?_
  refine z_callSX (as := [.ref (1), .int (xs (i + 1)), .int (xs (i + 2)), .int (xs (i + 3)), .ref (145)]) (wS_report c1) ko_L_report kl_L_107 rfl rfl ⟨by decide, by decide, by show u + 3 ≤ 601024; omega, by show us + 18 ≤ 7293034; omega⟩ (Nat.le_of_ble_eq_true rfl) rfl dL_law_316 ?_
  refine z_istore (by decide) rfl dL_law_319 ?_
  refine z_aload_n rfl rfl dL_law_321 ?_
  refine z_aload_n rfl rfl dL_law_322 ?_
  refine z_iload rfl dL_law_323 ?_
  refine z_iconst (nI 1) (by decide) dL_law_325 ?_
  refine m_addN dL_law_326 ?_
  refine m_sld (i + 1) (by omega) (by omega) dL_law_327 ?_
  refine z_aload_n rfl rfl dL_law_328 ?_
  refine z_iload rfl dL_law_329 ?_
  refine z_iconst (nI 2) (by decide) dL_law_331 ?_
  refine m_addN dL_law_332 ?_
  refine m_sld (i + 2) (by omega) (by omega) dL_law_333 ?_
  refine z_aload_n rfl rfl dL_law_334 ?_
  refine z_iload rfl dL_law_335 ?_
  refine z_iconst (nI 3) (by decide) dL_law_337 ?_
  refine m_addN dL_law_338 ?_
  refine m_sld (i + 3) (by omega) (by omega) dL_law_339 ?_
  refine z_callV (as := [.int (xs (i + 1)), .int (xs (i + 2)), .int (xs (i + 3))]) (c2 _) ko_X8_report kl_L_110 rfl (zl_a rfl rfl) rfl rfl ⟨by decide, by decide, by show u + 3 ≤ 601024; omega, by show us + 18 ≤ 7293034; omega⟩ (Nat.le_of_ble_eq_true rfl) rfl dL_law_340 ?_
  refine z_istore (by decide) rfl dL_law_343 ?_
  refine z_aload_n rfl rfl dL_law_345 ?_
  refine z_callV (as := []) (ct_thr c3) ko_X8_thrown kl_L_99 rfl (zl_a rfl rfl) rfl rfl ⟨by decide, by decide, by show u + 3 ≤ 601024; omega, by show us + 18 ≤ 7293034; omega⟩ (Nat.le_of_ble_eq_true rfl) rfl dL_law_346 ?_
  refine z_iload rfl dL_law_349 ?_
  refine z_icmp_eq 356 (by decide) dL_law_351 (fun _ => ?_) (fun h => absurd h (by decide))
  refine z_iload rfl dL_law_356 ?_
  refine z_if_ne 373 (by decide) dL_law_358 (fun _ => ?_) (fun h => absurd h (by decide))
  refine z_goto 1835 (by decide) dL_law_373 ?_
  refine z_fgt [.ref (0), .ref (1), .ref (117), .ref (145), .int (nI i), .null, .null] ⟨Or.inl rfl, ⟨Or.inl rfl, ⟨Or.inl rfl, ⟨Or.inl rfl, ⟨Or.inl rfl, ⟨Or.inr rfl, ⟨Or.inr rfl, trivial⟩⟩⟩⟩⟩⟩⟩ ?_
  exact kk _ _ _ (by show u + 3 ≤ u + 8; omega) (by show us + 18 ≤ us + 40; omega)
set_option maxRecDepth 100000 in
set_option maxHeartbeats 4000000 in
theorem lk_chart_ok {L i u us : Nat} {xs : Nat → Int32} {μ μ1 μ2 : zMu} {g : Int64} {v : Int32} {o : zO} (hi : i + 6 ≤ L) (hL : L ≤ 3072) (hu : u + 8 ≤ 601024) (hus : us + 40 ≤ 7293034) (c1 : zCt (L, xs) kX7_chart [.ref (1), .int (xs (i + 1)), .int (xs (i + 2))] (zm μ g) (.inl (some (.int v)), zm μ1 g)) (c2 : ∀ g9, zCt (L, xs) kX8_chart [.ref (117), .int (xs (i + 1)), .int (xs (i + 2))] (zm μ1 g9) (.inl (some (.int v)), zm μ2 g9)) (c3 : μ2 117 0 = nI 0) (kk : ∀ g2 u9 us9, u9 ≤ u + 8 → us9 ≤ us + 40 → zV true (L, xs) kL_law 0 o 1835 [.ref (0), .ref (1), .ref (117), .ref (145), .int (nI i), .null, .null] [] (zm μ2 g2) u9 us9) : zV true (L, xs) kL_law 0 o 376 [.ref (0), .ref (1), .ref (117), .ref (145), .int (nI i), .null, .null] [] (zm μ g) u us := by
  refine z_aload_n rfl rfl dL_law_376 ?_
  refine z_aload_n rfl rfl dL_law_377 ?_
  refine z_iload rfl dL_law_378 ?_
  refine z_iconst (nI 1) (by decide) dL_law_380 ?_
  refine m_addN dL_law_381 ?_
  refine m_sld (i + 1) (by omega) (by omega) dL_law_382 ?_
  refine z_aload_n rfl rfl dL_law_383 ?_
  refine z_iload rfl dL_law_384 ?_
  refine z_iconst (nI 2) (by decide) dL_law_386 ?_
  refine m_addN dL_law_387 ?_
  refine m_sld (i + 2) (by omega) (by omega) dL_law_388 ?_
  refine z_aload_n rfl rfl dL_law_389 ?_
  refine z_callSX (as := [.ref (1), .int (xs (i + 1)), .int (xs (i + 2)), .ref (145)]) (w_chart c1) ko_L_chart kl_L_111 rfl rfl ⟨by decide, by decide, by show u + 2 ≤ 601024; omega, by show us + 12 ≤ 7293034; omega⟩ (Nat.le_of_ble_eq_true rfl) rfl dL_law_390 ?_
  refine z_istore (by decide) rfl dL_law_393 ?_
  refine z_aload_n rfl rfl dL_law_395 ?_
  refine z_aload_n rfl rfl dL_law_396 ?_
  refine z_iload rfl dL_law_397 ?_
  refine z_iconst (nI 1) (by decide) dL_law_399 ?_
  refine m_addN dL_law_400 ?_
  refine m_sld (i + 1) (by omega) (by omega) dL_law_401 ?_
  refine z_aload_n rfl rfl dL_law_402 ?_
  refine z_iload rfl dL_law_403 ?_
  refine z_iconst (nI 2) (by decide) dL_law_405 ?_
  refine m_addN dL_law_406 ?_
  refine m_sld (i + 2) (by omega) (by omega) dL_law_407 ?_
  refine z_callV (as := [.int (xs (i + 1)), .int (xs (i + 2))]) (c2 _) ko_X8_chart kl_L_113 rfl (zl_a rfl rfl) rfl rfl ⟨by decide, by decide, by show u + 2 ≤ 601024; omega, by show us + 12 ≤ 7293034; omega⟩ (Nat.le_of_ble_eq_true rfl) rfl dL_law_408 ?_
  refine z_istore (by decide) rfl dL_law_411 ?_
  refine z_aload_n rfl rfl dL_law_413 ?_
  refine z_callV (as := []) (ct_thr c3) ko_X8_thrown kl_L_99 rfl (zl_a rfl rfl) rfl rfl ⟨by decide, by decide, by show u + 2 ≤ 601024; omega, by show us + 12 ≤ 7293034; omega⟩ (Nat.le_of_ble_eq_true rfl) rfl dL_law_414 ?_
  refine z_iload rfl dL_law_417 ?_
  refine z_icmp_eq 424 (by decide) dL_law_419 (fun _ => ?_) (fun h => absurd h (by decide))
  refine z_iload rfl dL_law_424 ?_
  refine z_if_ne 441 (by decide) dL_law_426 (fun h => absurd h (by decide)) (fun _ => ?_)
  refine z_aload_n rfl rfl dL_law_429 ?_
  refine z_iconst (nI 0) (by decide) dL_law_430 ?_
  refine z_lald (zl_a rfl rfl) (vp_in_nI (by decide) (by decide)) dL_law_431 ?_
  refine z_iload rfl dL_law_432 ?_
  refine z_i2l dL_law_434 ?_
  refine z_lcmp dL_law_435 ?_
  refine m_eqv (w := nI 0) (lg_self _) ?_
  refine z_if_eq 441 (by decide) dL_law_436 (fun _ => ?_) (fun h => absurd h (by decide))
  refine z_goto 1835 (by decide) dL_law_441 ?_
  refine z_fgt [.ref (0), .ref (1), .ref (117), .ref (145), .int (nI i), .null, .null] ⟨Or.inl rfl, ⟨Or.inl rfl, ⟨Or.inl rfl, ⟨Or.inl rfl, ⟨Or.inl rfl, ⟨Or.inr rfl, ⟨Or.inr rfl, trivial⟩⟩⟩⟩⟩⟩⟩ ?_
  exact kk _ _ _ (by show u + 2 ≤ u + 8; omega) (by show us + 12 ≤ us + 40; omega)
set_option maxRecDepth 100000 in
set_option maxHeartbeats 4000000 in
theorem lk_chart_A {L i u us : Nat} {xs : Nat → Int32} {μ μ1 μ2 : zMu} {g : Int64} {w : Int32} {o : zO} (hi : i + 6 ≤ L) (hL : L ≤ 3072) (hu : u + 8 ≤ 601024) (hus : us + 40 ≤ 7293034) (c1 : zCt (L, xs) kX7_chart [.ref (1), .int (xs (i + 1)), .int (xs (i + 2))] (zm μ g) (.inr xA, zm μ g)) (c2 : ∀ g9, zCt (L, xs) kX8_chart [.ref (117), .int (xs (i + 1)), .int (xs (i + 2))] (zm μ g9) (.inl (some (.int w)), zm μ2 g9)) (c3 : μ2 117 0 = nI 1) (kk : ∀ g2 u9 us9, u9 ≤ u + 8 → us9 ≤ us + 40 → zV true (L, xs) kL_law 0 o 1835 [.ref (0), .ref (1), .ref (117), .ref (145), .int (nI i), .null, .null] [] (zm μ2 g2) u9 us9) : zV true (L, xs) kL_law 0 o 376 [.ref (0), .ref (1), .ref (117), .ref (145), .int (nI i), .null, .null] [] (zm μ g) u us := by
  refine z_aload_n rfl rfl dL_law_376 ?_
  refine z_aload_n rfl rfl dL_law_377 ?_
  refine z_iload rfl dL_law_378 ?_
  refine z_iconst (nI 1) (by decide) dL_law_380 ?_
  refine m_addN dL_law_381 ?_
  refine m_sld (i + 1) (by omega) (by omega) dL_law_382 ?_
  refine z_aload_n rfl rfl dL_law_383 ?_
  refine z_iload rfl dL_law_384 ?_
  refine z_iconst (nI 2) (by decide) dL_law_386 ?_
  refine m_addN dL_law_387 ?_
  refine m_sld (i + 2) (by omega) (by omega) dL_law_388 ?_
  refine z_aload_n rfl rfl dL_law_389 ?_
  refine z_callSX (as := [.ref (1), .int (xs (i + 1)), .int (xs (i + 2)), .ref (145)]) (wA_chart c1) ko_L_chart kl_L_111 rfl rfl ⟨by decide, by decide, by show u + 2 ≤ 601024; omega, by show us + 12 ≤ 7293034; omega⟩ (Nat.le_of_ble_eq_true rfl) rfl dL_law_390 ?_
  refine z_istore (by decide) rfl dL_law_393 ?_
  refine z_aload_n rfl rfl dL_law_395 ?_
  refine z_aload_n rfl rfl dL_law_396 ?_
  refine z_iload rfl dL_law_397 ?_
  refine z_iconst (nI 1) (by decide) dL_law_399 ?_
  refine m_addN dL_law_400 ?_
  refine m_sld (i + 1) (by omega) (by omega) dL_law_401 ?_
  refine z_aload_n rfl rfl dL_law_402 ?_
  refine z_iload rfl dL_law_403 ?_
  refine z_iconst (nI 2) (by decide) dL_law_405 ?_
  refine m_addN dL_law_406 ?_
  refine m_sld (i + 2) (by omega) (by omega) dL_law_407 ?_
  refine z_callV (as := [.int (xs (i + 1)), .int (xs (i + 2))]) (c2 _) ko_X8_chart kl_L_113 rfl (zl_a rfl rfl) rfl rfl ⟨by decide, by decide, by show u + 2 ≤ 601024; omega, by show us + 12 ≤ 7293034; omega⟩ (Nat.le_of_ble_eq_true rfl) rfl dL_law_408 ?_
  refine z_istore (by decide) rfl dL_law_411 ?_
  refine z_aload_n rfl rfl dL_law_413 ?_
  refine z_callV (as := []) (ct_thr c3) ko_X8_thrown kl_L_99 rfl (zl_a rfl rfl) rfl rfl ⟨by decide, by decide, by show u + 2 ≤ 601024; omega, by show us + 12 ≤ 7293034; omega⟩ (Nat.le_of_ble_eq_true rfl) rfl dL_law_414 ?_
  refine z_iload rfl dL_law_417 ?_
  refine z_icmp_eq 424 (by decide) dL_law_419 (fun _ => ?_) (fun h => absurd h (by decide))
  refine z_iload rfl dL_law_424 ?_
  refine z_if_ne 441 (by decide) dL_law_426 (fun _ => ?_) (fun h => absurd h (by decide))
  refine z_goto 1835 (by decide) dL_law_441 ?_
  refine z_fgt [.ref (0), .ref (1), .ref (117), .ref (145), .int (nI i), .null, .null] ⟨Or.inl rfl, ⟨Or.inl rfl, ⟨Or.inl rfl, ⟨Or.inl rfl, ⟨Or.inl rfl, ⟨Or.inr rfl, ⟨Or.inr rfl, trivial⟩⟩⟩⟩⟩⟩⟩ ?_
  exact kk _ _ _ (by show u + 2 ≤ u + 8; omega) (by show us + 12 ≤ us + 40; omega)
set_option maxRecDepth 100000 in
set_option maxHeartbeats 4000000 in
theorem lk_chart_S {L i u us : Nat} {xs : Nat → Int32} {μ μ1 μ2 : zMu} {g : Int64} {w : Int32} {o : zO} (hi : i + 6 ≤ L) (hL : L ≤ 3072) (hu : u + 8 ≤ 601024) (hus : us + 40 ≤ 7293034) (c1 : zCt (L, xs) kX7_chart [.ref (1), .int (xs (i + 1)), .int (xs (i + 2))] (zm μ g) (.inr xS, zm μ g)) (c2 : ∀ g9, zCt (L, xs) kX8_chart [.ref (117), .int (xs (i + 1)), .int (xs (i + 2))] (zm μ g9) (.inl (some (.int w)), zm μ2 g9)) (c3 : μ2 117 0 = nI 2) (kk : ∀ g2 u9 us9, u9 ≤ u + 8 → us9 ≤ us + 40 → zV true (L, xs) kL_law 0 o 1835 [.ref (0), .ref (1), .ref (117), .ref (145), .int (nI i), .null, .null] [] (zm μ2 g2) u9 us9) : zV true (L, xs) kL_law 0 o 376 [.ref (0), .ref (1), .ref (117), .ref (145), .int (nI i), .null, .null] [] (zm μ g) u us := by
  refine z_aload_n rfl rfl dL_law_376 ?_
  refine z_aload_n rfl rfl dL_law_377 ?_
  refine z_iload rfl dL_law_378 ?_
  refine z_iconst (nI 1) (by decide) dL_law_380 ?_
  refine m_addN dL_law_381 ?_
  refine m_sld (i + 1) (by omega) (by omega) dL_law_382 ?_
  refine z_aload_n rfl rfl dL_law_383 ?_
  refine z_iload rfl dL_law_384 ?_
  refine z_iconst (nI 2) (by decide) dL_law_386 ?_
  refine m_addN dL_law_387 ?_
  refine m_sld (i + 2) (by omega) (by omega) dL_law_388 ?_
  refine z_aload_n rfl rfl dL_law_389 ?_
  refine z_callSX (as := [.ref (1), .int (xs (i + 1)), .int (xs (i + 2)), .ref (145)]) (wS_chart c1) ko_L_chart kl_L_111 rfl rfl ⟨by decide, by decide, by show u + 2 ≤ 601024; omega, by show us + 12 ≤ 7293034; omega⟩ (Nat.le_of_ble_eq_true rfl) rfl dL_law_390 ?_
  refine z_istore (by decide) rfl dL_law_393 ?_
  refine z_aload_n rfl rfl dL_law_395 ?_
  refine z_aload_n rfl rfl dL_law_396 ?_
  refine z_iload rfl dL_law_397 ?_
  refine z_iconst (nI 1) (by decide) dL_law_399 ?_
  refine m_addN dL_law_400 ?_
  refine m_sld (i + 1) (by omega) (by omega) dL_law_401 ?_
  refine z_aload_n rfl rfl dL_law_402 ?_
  refine z_iload rfl dL_law_403 ?_
  refine z_iconst (nI 2) (by decide) dL_law_405 ?_
  refine m_addN dL_law_406 ?_
  refine m_sld (i + 2) (by omega) (by omega) dL_law_407 ?_
  refine z_callV (as := [.int (xs (i + 1)), .int (xs (i + 2))]) (c2 _) ko_X8_chart kl_L_113 rfl (zl_a rfl rfl) rfl rfl ⟨by decide, by decide, by show u + 2 ≤ 601024; omega, by show us + 12 ≤ 7293034; omega⟩ (Nat.le_of_ble_eq_true rfl) rfl dL_law_408 ?_
  refine z_istore (by decide) rfl dL_law_411 ?_
  refine z_aload_n rfl rfl dL_law_413 ?_
  refine z_callV (as := []) (ct_thr c3) ko_X8_thrown kl_L_99 rfl (zl_a rfl rfl) rfl rfl ⟨by decide, by decide, by show u + 2 ≤ 601024; omega, by show us + 12 ≤ 7293034; omega⟩ (Nat.le_of_ble_eq_true rfl) rfl dL_law_414 ?_
  refine z_iload rfl dL_law_417 ?_
  refine z_icmp_eq 424 (by decide) dL_law_419 (fun _ => ?_) (fun h => absurd h (by decide))
  refine z_iload rfl dL_law_424 ?_
  refine z_if_ne 441 (by decide) dL_law_426 (fun _ => ?_) (fun h => absurd h (by decide))
  refine z_goto 1835 (by decide) dL_law_441 ?_
  refine z_fgt [.ref (0), .ref (1), .ref (117), .ref (145), .int (nI i), .null, .null] ⟨Or.inl rfl, ⟨Or.inl rfl, ⟨Or.inl rfl, ⟨Or.inl rfl, ⟨Or.inl rfl, ⟨Or.inr rfl, ⟨Or.inr rfl, trivial⟩⟩⟩⟩⟩⟩⟩ ?_
  exact kk _ _ _ (by show u + 2 ≤ u + 8; omega) (by show us + 12 ≤ us + 40; omega)
set_option maxRecDepth 100000 in
set_option maxHeartbeats 4000000 in
theorem lk_hand_ok {L i u us : Nat} {xs : Nat → Int32} {μ μ1 μ2 : zMu} {g : Int64} {v : Int32} {o : zO} (hi : i + 6 ≤ L) (hL : L ≤ 3072) (hu : u + 8 ≤ 601024) (hus : us + 40 ≤ 7293034) (c1 : zCt (L, xs) kX7_hand [.ref (1), .int (xs (i + 1)), .int (xs (i + 2))] (zm μ g) (.inl (some (.int v)), zm μ1 g)) (c2 : ∀ g9, zCt (L, xs) kX8_hand [.ref (117), .int (xs (i + 1)), .int (xs (i + 2))] (zm μ1 g9) (.inl (some (.int v)), zm μ2 g9)) (c3 : μ2 117 0 = nI 0) (kk : ∀ g2 u9 us9, u9 ≤ u + 8 → us9 ≤ us + 40 → zV true (L, xs) kL_law 0 o 1835 [.ref (0), .ref (1), .ref (117), .ref (145), .int (nI i), .null, .null] [] (zm μ2 g2) u9 us9) : zV true (L, xs) kL_law 0 o 444 [.ref (0), .ref (1), .ref (117), .ref (145), .int (nI i), .null, .null] [] (zm μ g) u us := by
  refine z_aload_n rfl rfl dL_law_444 ?_
  refine z_aload_n rfl rfl dL_law_445 ?_
  refine z_iload rfl dL_law_446 ?_
  refine z_iconst (nI 1) (by decide) dL_law_448 ?_
  refine m_addN dL_law_449 ?_
  refine m_sld (i + 1) (by omega) (by omega) dL_law_450 ?_
  refine z_aload_n rfl rfl dL_law_451 ?_
  refine z_iload rfl dL_law_452 ?_
  refine z_iconst (nI 2) (by decide) dL_law_454 ?_
  refine m_addN dL_law_455 ?_
  refine m_sld (i + 2) (by omega) (by omega) dL_law_456 ?_
  refine z_aload_n rfl rfl dL_law_457 ?_
  refine z_callSX (as := [.ref (1), .int (xs (i + 1)), .int (xs (i + 2)), .ref (145)]) (w_hand c1) ko_L_hand kl_L_114 rfl rfl ⟨by decide, by decide, by show u + 2 ≤ 601024; omega, by show us + 12 ≤ 7293034; omega⟩ (Nat.le_of_ble_eq_true rfl) rfl dL_law_458 ?_
  refine z_istore (by decide) rfl dL_law_461 ?_
  refine z_aload_n rfl rfl dL_law_463 ?_
  refine z_aload_n rfl rfl dL_law_464 ?_
  refine z_iload rfl dL_law_465 ?_
  refine z_iconst (nI 1) (by decide) dL_law_467 ?_
  refine m_addN dL_law_468 ?_
  refine m_sld (i + 1) (by omega) (by omega) dL_law_469 ?_
  refine z_aload_n rfl rfl dL_law_470 ?_
  refine z_iload rfl dL_law_471 ?_
  refine z_iconst (nI 2) (by decide) dL_law_473 ?_
  refine m_addN dL_law_474 ?_
  refine m_sld (i + 2) (by omega) (by omega) dL_law_475 ?_
  refine z_callV (as := [.int (xs (i + 1)), .int (xs (i + 2))]) (c2 _) ko_X8_hand kl_L_116 rfl (zl_a rfl rfl) rfl rfl ⟨by decide, by decide, by show u + 2 ≤ 601024; omega, by show us + 12 ≤ 7293034; omega⟩ (Nat.le_of_ble_eq_true rfl) rfl dL_law_476 ?_
  refine z_istore (by decide) rfl dL_law_479 ?_
  refine z_aload_n rfl rfl dL_law_481 ?_
  refine z_callV (as := []) (ct_thr c3) ko_X8_thrown kl_L_99 rfl (zl_a rfl rfl) rfl rfl ⟨by decide, by decide, by show u + 2 ≤ 601024; omega, by show us + 12 ≤ 7293034; omega⟩ (Nat.le_of_ble_eq_true rfl) rfl dL_law_482 ?_
  refine z_iload rfl dL_law_485 ?_
  refine z_icmp_eq 492 (by decide) dL_law_487 (fun _ => ?_) (fun h => absurd h (by decide))
  refine z_iload rfl dL_law_492 ?_
  refine z_if_ne 509 (by decide) dL_law_494 (fun h => absurd h (by decide)) (fun _ => ?_)
  refine z_aload_n rfl rfl dL_law_497 ?_
  refine z_iconst (nI 0) (by decide) dL_law_498 ?_
  refine z_lald (zl_a rfl rfl) (vp_in_nI (by decide) (by decide)) dL_law_499 ?_
  refine z_iload rfl dL_law_500 ?_
  refine z_i2l dL_law_502 ?_
  refine z_lcmp dL_law_503 ?_
  refine m_eqv (w := nI 0) (lg_self _) ?_
  refine z_if_eq 509 (by decide) dL_law_504 (fun _ => ?_) (fun h => absurd h (by decide))
  refine z_goto 1835 (by decide) dL_law_509 ?_
  refine z_fgt [.ref (0), .ref (1), .ref (117), .ref (145), .int (nI i), .null, .null] ⟨Or.inl rfl, ⟨Or.inl rfl, ⟨Or.inl rfl, ⟨Or.inl rfl, ⟨Or.inl rfl, ⟨Or.inr rfl, ⟨Or.inr rfl, trivial⟩⟩⟩⟩⟩⟩⟩ ?_
  exact kk _ _ _ (by show u + 2 ≤ u + 8; omega) (by show us + 12 ≤ us + 40; omega)
set_option maxRecDepth 100000 in
set_option maxHeartbeats 4000000 in
theorem lk_hand_I {L i u us : Nat} {xs : Nat → Int32} {μ μ1 μ2 : zMu} {g : Int64} {w : Int32} {o : zO} (hi : i + 6 ≤ L) (hL : L ≤ 3072) (hu : u + 8 ≤ 601024) (hus : us + 40 ≤ 7293034) (c1 : zCt (L, xs) kX7_hand [.ref (1), .int (xs (i + 1)), .int (xs (i + 2))] (zm μ g) (.inr xI, zm μ g)) (c2 : ∀ g9, zCt (L, xs) kX8_hand [.ref (117), .int (xs (i + 1)), .int (xs (i + 2))] (zm μ g9) (.inl (some (.int w)), zm μ2 g9)) (c3 : μ2 117 0 = nI 1) (kk : ∀ g2 u9 us9, u9 ≤ u + 8 → us9 ≤ us + 40 → zV true (L, xs) kL_law 0 o 1835 [.ref (0), .ref (1), .ref (117), .ref (145), .int (nI i), .null, .null] [] (zm μ2 g2) u9 us9) : zV true (L, xs) kL_law 0 o 444 [.ref (0), .ref (1), .ref (117), .ref (145), .int (nI i), .null, .null] [] (zm μ g) u us := by
  refine z_aload_n rfl rfl dL_law_444 ?_
  refine z_aload_n rfl rfl dL_law_445 ?_
  refine z_iload rfl dL_law_446 ?_
  refine z_iconst (nI 1) (by decide) dL_law_448 ?_
  refine m_addN dL_law_449 ?_
  refine m_sld (i + 1) (by omega) (by omega) dL_law_450 ?_
  refine z_aload_n rfl rfl dL_law_451 ?_
  refine z_iload rfl dL_law_452 ?_
  refine z_iconst (nI 2) (by decide) dL_law_454 ?_
  refine m_addN dL_law_455 ?_
  refine m_sld (i + 2) (by omega) (by omega) dL_law_456 ?_
  refine z_aload_n rfl rfl dL_law_457 ?_
  refine z_callSX (as := [.ref (1), .int (xs (i + 1)), .int (xs (i + 2)), .ref (145)]) (wI_hand c1) ko_L_hand kl_L_114 rfl rfl ⟨by decide, by decide, by show u + 2 ≤ 601024; omega, by show us + 12 ≤ 7293034; omega⟩ (Nat.le_of_ble_eq_true rfl) rfl dL_law_458 ?_
  refine z_istore (by decide) rfl dL_law_461 ?_
  refine z_aload_n rfl rfl dL_law_463 ?_
  refine z_aload_n rfl rfl dL_law_464 ?_
  refine z_iload rfl dL_law_465 ?_
  refine z_iconst (nI 1) (by decide) dL_law_467 ?_
  refine m_addN dL_law_468 ?_
  refine m_sld (i + 1) (by omega) (by omega) dL_law_469 ?_
  refine z_aload_n rfl rfl dL_law_470 ?_
  refine z_iload rfl dL_law_471 ?_
  refine z_iconst (nI 2) (by decide) dL_law_473 ?_
  refine m_addN dL_law_474 ?_
  refine m_sld (i + 2) (by omega) (by omega) dL_law_475 ?_
  refine z_callV (as := [.int (xs (i + 1)), .int (xs (i + 2))]) (c2 _) ko_X8_hand kl_L_116 rfl (zl_a rfl rfl) rfl rfl ⟨by decide, by decide, by show u + 2 ≤ 601024; omega, by show us + 12 ≤ 7293034; omega⟩ (Nat.le_of_ble_eq_true rfl) rfl dL_law_476 ?_
  refine z_istore (by decide) rfl dL_law_479 ?_
  refine z_aload_n rfl rfl dL_law_481 ?_
  refine z_callV (as := []) (ct_thr c3) ko_X8_thrown kl_L_99 rfl (zl_a rfl rfl) rfl rfl ⟨by decide, by decide, by show u + 2 ≤ 601024; omega, by show us + 12 ≤ 7293034; omega⟩ (Nat.le_of_ble_eq_true rfl) rfl dL_law_482 ?_
  refine z_iload rfl dL_law_485 ?_
  refine z_icmp_eq 492 (by decide) dL_law_487 (fun _ => ?_) (fun h => absurd h (by decide))
  refine z_iload rfl dL_law_492 ?_
  refine z_if_ne 509 (by decide) dL_law_494 (fun _ => ?_) (fun h => absurd h (by decide))
  refine z_goto 1835 (by decide) dL_law_509 ?_
  refine z_fgt [.ref (0), .ref (1), .ref (117), .ref (145), .int (nI i), .null, .null] ⟨Or.inl rfl, ⟨Or.inl rfl, ⟨Or.inl rfl, ⟨Or.inl rfl, ⟨Or.inl rfl, ⟨Or.inr rfl, ⟨Or.inr rfl, trivial⟩⟩⟩⟩⟩⟩⟩ ?_
  exact kk _ _ _ (by show u + 2 ≤ u + 8; omega) (by show us + 12 ≤ us + 40; omega)
set_option maxRecDepth 100000 in
set_option maxHeartbeats 4000000 in
theorem lk_hand_A {L i u us : Nat} {xs : Nat → Int32} {μ μ1 μ2 : zMu} {g : Int64} {w : Int32} {o : zO} (hi : i + 6 ≤ L) (hL : L ≤ 3072) (hu : u + 8 ≤ 601024) (hus : us + 40 ≤ 7293034) (c1 : zCt (L, xs) kX7_hand [.ref (1), .int (xs (i + 1)), .int (xs (i + 2))] (zm μ g) (.inr xA, zm μ g)) (c2 : ∀ g9, zCt (L, xs) kX8_hand [.ref (117), .int (xs (i + 1)), .int (xs (i + 2))] (zm μ g9) (.inl (some (.int w)), zm μ2 g9)) (c3 : μ2 117 0 = nI 2) (kk : ∀ g2 u9 us9, u9 ≤ u + 8 → us9 ≤ us + 40 → zV true (L, xs) kL_law 0 o 1835 [.ref (0), .ref (1), .ref (117), .ref (145), .int (nI i), .null, .null] [] (zm μ2 g2) u9 us9) : zV true (L, xs) kL_law 0 o 444 [.ref (0), .ref (1), .ref (117), .ref (145), .int (nI i), .null, .null] [] (zm μ g) u us := by
  refine z_aload_n rfl rfl dL_law_444 ?_
  refine z_aload_n rfl rfl dL_law_445 ?_
  refine z_iload rfl dL_law_446 ?_
  refine z_iconst (nI 1) (by decide) dL_law_448 ?_
  refine m_addN dL_law_449 ?_
  refine m_sld (i + 1) (by omega) (by omega) dL_law_450 ?_
  refine z_aload_n rfl rfl dL_law_451 ?_
  refine z_iload rfl dL_law_452 ?_
  refine z_iconst (nI 2) (by decide) dL_law_454 ?_
  refine m_addN dL_law_455 ?_
  refine m_sld (i + 2) (by omega) (by omega) dL_law_456 ?_
  refine z_aload_n rfl rfl dL_law_457 ?_
  refine z_callSX (as := [.ref (1), .int (xs (i + 1)), .int (xs (i + 2)), .ref (145)]) (wA_hand c1) ko_L_hand kl_L_114 rfl rfl ⟨by decide, by decide, by show u + 2 ≤ 601024; omega, by show us + 12 ≤ 7293034; omega⟩ (Nat.le_of_ble_eq_true rfl) rfl dL_law_458 ?_
  refine z_istore (by decide) rfl dL_law_461 ?_
  refine z_aload_n rfl rfl dL_law_463 ?_
  refine z_aload_n rfl rfl dL_law_464 ?_
  refine z_iload rfl dL_law_465 ?_
  refine z_iconst (nI 1) (by decide) dL_law_467 ?_
  refine m_addN dL_law_468 ?_
  refine m_sld (i + 1) (by omega) (by omega) dL_law_469 ?_
  refine z_aload_n rfl rfl dL_law_470 ?_
  refine z_iload rfl dL_law_471 ?_
  refine z_iconst (nI 2) (by decide) dL_law_473 ?_
  refine m_addN dL_law_474 ?_
  refine m_sld (i + 2) (by omega) (by omega) dL_law_475 ?_
  refine z_callV (as := [.int (xs (i + 1)), .int (xs (i + 2))]) (c2 _) ko_X8_hand kl_L_116 rfl (zl_a rfl rfl) rfl rfl ⟨by decide, by decide, by show u + 2 ≤ 601024; omega, by show us + 12 ≤ 7293034; omega⟩ (Nat.le_of_ble_eq_true rfl) rfl dL_law_476 ?_
  refine z_istore (by decide) rfl dL_law_479 ?_
  refine z_aload_n rfl rfl dL_law_481 ?_
  refine z_callV (as := []) (ct_thr c3) ko_X8_thrown kl_L_99 rfl (zl_a rfl rfl) rfl rfl ⟨by decide, by decide, by show u + 2 ≤ 601024; omega, by show us + 12 ≤ 7293034; omega⟩ (Nat.le_of_ble_eq_true rfl) rfl dL_law_482 ?_
  refine z_iload rfl dL_law_485 ?_
  refine z_icmp_eq 492 (by decide) dL_law_487 (fun _ => ?_) (fun h => absurd h (by decide))
  refine z_iload rfl dL_law_492 ?_
  refine z_if_ne 509 (by decide) dL_law_494 (fun _ => ?_) (fun h => absurd h (by decide))
  refine z_goto 1835 (by decide) dL_law_509 ?_
  refine z_fgt [.ref (0), .ref (1), .ref (117), .ref (145), .int (nI i), .null, .null] ⟨Or.inl rfl, ⟨Or.inl rfl, ⟨Or.inl rfl, ⟨Or.inl rfl, ⟨Or.inl rfl, ⟨Or.inr rfl, ⟨Or.inr rfl, trivial⟩⟩⟩⟩⟩⟩⟩ ?_
  exact kk _ _ _ (by show u + 2 ≤ u + 8; omega) (by show us + 12 ≤ us + 40; omega)
set_option maxRecDepth 100000 in
set_option maxHeartbeats 4000000 in
theorem lk_reads_ok {L i u us : Nat} {xs : Nat → Int32} {μ μ1 μ2 : zMu} {g : Int64} {o : zO} (hi : i + 6 ≤ L) (hL : L ≤ 3072) (hu : u + 8 ≤ 601024) (hus : us + 40 ≤ 7293034) (c1 : zCt (L, xs) kX7_reads [.ref (1), .int (xs (i + 1)), .int (xs (i + 2)), .int (xs (i + 3))] (zm μ g) (.inl (none), zm μ1 g)) (c2 : ∀ g9, zCt (L, xs) kX8_reads [.ref (117), .int (xs (i + 1)), .int (xs (i + 2)), .int (xs (i + 3))] (zm μ1 g9) (.inl (none), zm μ2 g9)) (c3 : μ2 117 0 = nI 0) (kk : ∀ g2 u9 us9, u9 ≤ u + 8 → us9 ≤ us + 40 → zV true (L, xs) kL_law 0 o 1835 [.ref (0), .ref (1), .ref (117), .ref (145), .int (nI i), .null, .null] [] (zm μ2 g2) u9 us9) : zV true (L, xs) kL_law 0 o 512 [.ref (0), .ref (1), .ref (117), .ref (145), .int (nI i), .null, .null] [] (zm μ g) u us := by
  refine z_aload_n rfl rfl dL_law_512 ?_
  refine z_aload_n rfl rfl dL_law_513 ?_
  refine z_iload rfl dL_law_514 ?_
  refine z_iconst (nI 1) (by decide) dL_law_516 ?_
  refine m_addN dL_law_517 ?_
  refine m_sld (i + 1) (by omega) (by omega) dL_law_518 ?_
  refine z_aload_n rfl rfl dL_law_519 ?_
  refine z_iload rfl dL_law_520 ?_
  refine z_iconst (nI 2) (by decide) dL_law_522 ?_
  refine m_addN dL_law_523 ?_
  refine m_sld (i + 2) (by omega) (by omega) dL_law_524 ?_
  refine z_aload_n rfl rfl dL_law_525 ?_
  refine z_iload rfl dL_law_526 ?_
  refine z_iconst (nI 3) (by decide) dL_law_528 ?_
  refine m_addN dL_law_529 ?_
  refine m_sld (i + 3) (by omega) (by omega) dL_law_530 ?_
  refine z_callSX (as := [.ref (1), .int (xs (i + 1)), .int (xs (i + 2)), .int (xs (i + 3))]) (w_reads c1) ko_L_reads kl_L_117 rfl rfl ⟨by decide, by decide, by show u + 2 ≤ 601024; omega, by show us + 12 ≤ 7293034; omega⟩ (Nat.le_of_ble_eq_true rfl) rfl dL_law_531 ?_
  refine z_istore (by decide) rfl dL_law_534 ?_
  refine z_aload_n rfl rfl dL_law_536 ?_
  refine z_aload_n rfl rfl dL_law_537 ?_
  refine z_iload rfl dL_law_538 ?_
  refine z_iconst (nI 1) (by decide) dL_law_540 ?_
  refine m_addN dL_law_541 ?_
  refine m_sld (i + 1) (by omega) (by omega) dL_law_542 ?_
  refine z_aload_n rfl rfl dL_law_543 ?_
  refine z_iload rfl dL_law_544 ?_
  refine z_iconst (nI 2) (by decide) dL_law_546 ?_
  refine m_addN dL_law_547 ?_
  refine m_sld (i + 2) (by omega) (by omega) dL_law_548 ?_
  refine z_aload_n rfl rfl dL_law_549 ?_
  refine z_iload rfl dL_law_550 ?_
  refine z_iconst (nI 3) (by decide) dL_law_552 ?_
  refine m_addN dL_law_553 ?_
  refine m_sld (i + 3) (by omega) (by omega) dL_law_554 ?_
  refine z_callV (as := [.int (xs (i + 1)), .int (xs (i + 2)), .int (xs (i + 3))]) (c2 _) ko_X8_reads kl_L_120 rfl (zl_a rfl rfl) rfl rfl ⟨by decide, by decide, by show u + 2 ≤ 601024; omega, by show us + 12 ≤ 7293034; omega⟩ (Nat.le_of_ble_eq_true rfl) rfl dL_law_555 ?_
  refine z_aload_n rfl rfl dL_law_558 ?_
  refine z_callV (as := []) (ct_thr c3) ko_X8_thrown kl_L_99 rfl (zl_a rfl rfl) rfl rfl ⟨by decide, by decide, by show u + 2 ≤ 601024; omega, by show us + 12 ≤ 7293034; omega⟩ (Nat.le_of_ble_eq_true rfl) rfl dL_law_559 ?_
  refine z_iload rfl dL_law_562 ?_
  refine z_icmp_eq 569 (by decide) dL_law_564 (fun _ => ?_) (fun h => absurd h (by decide))
  refine z_goto 1835 (by decide) dL_law_569 ?_
  refine z_fgt [.ref (0), .ref (1), .ref (117), .ref (145), .int (nI i), .null, .null] ⟨Or.inl rfl, ⟨Or.inl rfl, ⟨Or.inl rfl, ⟨Or.inl rfl, ⟨Or.inl rfl, ⟨Or.inr rfl, ⟨Or.inl rfl, trivial⟩⟩⟩⟩⟩⟩⟩ ?_
  exact kk _ _ _ (by show u + 2 ≤ u + 8; omega) (by show us + 12 ≤ us + 40; omega)
set_option maxRecDepth 100000 in
set_option maxHeartbeats 4000000 in
theorem lk_reads_I {L i u us : Nat} {xs : Nat → Int32} {μ μ1 μ2 : zMu} {g : Int64} {o : zO} (hi : i + 6 ≤ L) (hL : L ≤ 3072) (hu : u + 8 ≤ 601024) (hus : us + 40 ≤ 7293034) (c1 : zCt (L, xs) kX7_reads [.ref (1), .int (xs (i + 1)), .int (xs (i + 2)), .int (xs (i + 3))] (zm μ g) (.inr xI, zm μ g)) (c2 : ∀ g9, zCt (L, xs) kX8_reads [.ref (117), .int (xs (i + 1)), .int (xs (i + 2)), .int (xs (i + 3))] (zm μ g9) (.inl (none), zm μ2 g9)) (c3 : μ2 117 0 = nI 1) (kk : ∀ g2 u9 us9, u9 ≤ u + 8 → us9 ≤ us + 40 → zV true (L, xs) kL_law 0 o 1835 [.ref (0), .ref (1), .ref (117), .ref (145), .int (nI i), .null, .null] [] (zm μ2 g2) u9 us9) : zV true (L, xs) kL_law 0 o 512 [.ref (0), .ref (1), .ref (117), .ref (145), .int (nI i), .null, .null] [] (zm μ g) u us := by
  refine z_aload_n rfl rfl dL_law_512 ?_
  refine z_aload_n rfl rfl dL_law_513 ?_
  refine z_iload rfl dL_law_514 ?_
  refine z_iconst (nI 1) (by decide) dL_law_516 ?_
  refine m_addN dL_law_517 ?_
  refine m_sld (i + 1) (by omega) (by omega) dL_law_518 ?_
  refine z_aload_n rfl rfl dL_law_519 ?_
  refine z_iload rfl dL_law_520 ?_
  refine z_iconst (nI 2) (by decide) dL_law_522 ?_
  refine m_addN dL_law_523 ?_
  refine m_sld (i + 2) (by omega) (by omega) dL_law_524 ?_
  refine z_aload_n rfl rfl dL_law_525 ?_
  refine z_iload rfl dL_law_526 ?_
  refine z_iconst (nI 3) (by decide) dL_law_528 ?_
  refine m_addN dL_law_529 ?_
  refine m_sld (i + 3) (by omega) (by omega) dL_law_530 ?_
  refine z_callSX (as := [.ref (1), .int (xs (i + 1)), .int (xs (i + 2)), .int (xs (i + 3))]) (wI_reads c1) ko_L_reads kl_L_117 rfl rfl ⟨by decide, by decide, by show u + 2 ≤ 601024; omega, by show us + 12 ≤ 7293034; omega⟩ (Nat.le_of_ble_eq_true rfl) rfl dL_law_531 ?_
  refine z_istore (by decide) rfl dL_law_534 ?_
  refine z_aload_n rfl rfl dL_law_536 ?_
  refine z_aload_n rfl rfl dL_law_537 ?_
  refine z_iload rfl dL_law_538 ?_
  refine z_iconst (nI 1) (by decide) dL_law_540 ?_
  refine m_addN dL_law_541 ?_
  refine m_sld (i + 1) (by omega) (by omega) dL_law_542 ?_
  refine z_aload_n rfl rfl dL_law_543 ?_
  refine z_iload rfl dL_law_544 ?_
  refine z_iconst (nI 2) (by decide) dL_law_546 ?_
  refine m_addN dL_law_547 ?_
  refine m_sld (i + 2) (by omega) (by omega) dL_law_548 ?_
  refine z_aload_n rfl rfl dL_law_549 ?_
  refine z_iload rfl dL_law_550 ?_
  refine z_iconst (nI 3) (by decide) dL_law_552 ?_
  refine m_addN dL_law_553 ?_
  refine m_sld (i + 3) (by omega) (by omega) dL_law_554 ?_
  refine z_callV (as := [.int (xs (i + 1)), .int (xs (i + 2)), .int (xs (i + 3))]) (c2 _) ko_X8_reads kl_L_120 rfl (zl_a rfl rfl) rfl rfl ⟨by decide, by decide, by show u + 2 ≤ 601024; omega, by show us + 12 ≤ 7293034; omega⟩ (Nat.le_of_ble_eq_true rfl) rfl dL_law_555 ?_
  refine z_aload_n rfl rfl dL_law_558 ?_
  refine z_callV (as := []) (ct_thr c3) ko_X8_thrown kl_L_99 rfl (zl_a rfl rfl) rfl rfl ⟨by decide, by decide, by show u + 2 ≤ 601024; omega, by show us + 12 ≤ 7293034; omega⟩ (Nat.le_of_ble_eq_true rfl) rfl dL_law_559 ?_
  refine z_iload rfl dL_law_562 ?_
  refine z_icmp_eq 569 (by decide) dL_law_564 (fun _ => ?_) (fun h => absurd h (by decide))
  refine z_goto 1835 (by decide) dL_law_569 ?_
  refine z_fgt [.ref (0), .ref (1), .ref (117), .ref (145), .int (nI i), .null, .null] ⟨Or.inl rfl, ⟨Or.inl rfl, ⟨Or.inl rfl, ⟨Or.inl rfl, ⟨Or.inl rfl, ⟨Or.inr rfl, ⟨Or.inl rfl, trivial⟩⟩⟩⟩⟩⟩⟩ ?_
  exact kk _ _ _ (by show u + 2 ≤ u + 8; omega) (by show us + 12 ≤ us + 40; omega)
set_option maxRecDepth 100000 in
set_option maxHeartbeats 4000000 in
theorem lk_reads_A {L i u us : Nat} {xs : Nat → Int32} {μ μ1 μ2 : zMu} {g : Int64} {o : zO} (hi : i + 6 ≤ L) (hL : L ≤ 3072) (hu : u + 8 ≤ 601024) (hus : us + 40 ≤ 7293034) (c1 : zCt (L, xs) kX7_reads [.ref (1), .int (xs (i + 1)), .int (xs (i + 2)), .int (xs (i + 3))] (zm μ g) (.inr xA, zm μ g)) (c2 : ∀ g9, zCt (L, xs) kX8_reads [.ref (117), .int (xs (i + 1)), .int (xs (i + 2)), .int (xs (i + 3))] (zm μ g9) (.inl (none), zm μ2 g9)) (c3 : μ2 117 0 = nI 2) (kk : ∀ g2 u9 us9, u9 ≤ u + 8 → us9 ≤ us + 40 → zV true (L, xs) kL_law 0 o 1835 [.ref (0), .ref (1), .ref (117), .ref (145), .int (nI i), .null, .null] [] (zm μ2 g2) u9 us9) : zV true (L, xs) kL_law 0 o 512 [.ref (0), .ref (1), .ref (117), .ref (145), .int (nI i), .null, .null] [] (zm μ g) u us := by
  refine z_aload_n rfl rfl dL_law_512 ?_
  refine z_aload_n rfl rfl dL_law_513 ?_
  refine z_iload rfl dL_law_514 ?_
  refine z_iconst (nI 1) (by decide) dL_law_516 ?_
  refine m_addN dL_law_517 ?_
  refine m_sld (i + 1) (by omega) (by omega) dL_law_518 ?_
  refine z_aload_n rfl rfl dL_law_519 ?_
  refine z_iload rfl dL_law_520 ?_
  refine z_iconst (nI 2) (by decide) dL_law_522 ?_
  refine m_addN dL_law_523 ?_
  refine m_sld (i + 2) (by omega) (by omega) dL_law_524 ?_
  refine z_aload_n rfl rfl dL_law_525 ?_
  refine z_iload rfl dL_law_526 ?_
  refine z_iconst (nI 3) (by decide) dL_law_528 ?_
  refine m_addN dL_law_529 ?_
  refine m_sld (i + 3) (by omega) (by omega) dL_law_530 ?_
  refine z_callSX (as := [.ref (1), .int (xs (i + 1)), .int (xs (i + 2)), .int (xs (i + 3))]) (wA_reads c1) ko_L_reads kl_L_117 rfl rfl ⟨by decide, by decide, by show u + 2 ≤ 601024; omega, by show us + 12 ≤ 7293034; omega⟩ (Nat.le_of_ble_eq_true rfl) rfl dL_law_531 ?_
  refine z_istore (by decide) rfl dL_law_534 ?_
  refine z_aload_n rfl rfl dL_law_536 ?_
  refine z_aload_n rfl rfl dL_law_537 ?_
  refine z_iload rfl dL_law_538 ?_
  refine z_iconst (nI 1) (by decide) dL_law_540 ?_
  refine m_addN dL_law_541 ?_
  refine m_sld (i + 1) (by omega) (by omega) dL_law_542 ?_
  refine z_aload_n rfl rfl dL_law_543 ?_
  refine z_iload rfl dL_law_544 ?_
  refine z_iconst (nI 2) (by decide) dL_law_546 ?_
  refine m_addN dL_law_547 ?_
  refine m_sld (i + 2) (by omega) (by omega) dL_law_548 ?_
  refine z_aload_n rfl rfl dL_law_549 ?_
  refine z_iload rfl dL_law_550 ?_
  refine z_iconst (nI 3) (by decide) dL_law_552 ?_
  refine m_addN dL_law_553 ?_
  refine m_sld (i + 3) (by omega) (by omega) dL_law_554 ?_
  refine z_callV (as := [.int (xs (i + 1)), .int (xs (i + 2)), .int (xs (i + 3))]) (c2 _) ko_X8_reads kl_L_120 rfl (zl_a rfl rfl) rfl rfl ⟨by decide, by decide, by show u + 2 ≤ 601024; omega, by show us + 12 ≤ 7293034; omega⟩ (Nat.le_of_ble_eq_true rfl) rfl dL_law_555 ?_
  refine z_aload_n rfl rfl dL_law_558 ?_
  refine z_callV (as := []) (ct_thr c3) ko_X8_thrown kl_L_99 rfl (zl_a rfl rfl) rfl rfl ⟨by decide, by decide, by show u + 2 ≤ 601024; omega, by show us + 12 ≤ 7293034; omega⟩ (Nat.le_of_ble_eq_true rfl) rfl dL_law_559 ?_
  refine z_iload rfl dL_law_562 ?_
  refine z_icmp_eq 569 (by decide) dL_law_564 (fun _ => ?_) (fun h => absurd h (by decide))
  refine z_goto 1835 (by decide) dL_law_569 ?_
  refine z_fgt [.ref (0), .ref (1), .ref (117), .ref (145), .int (nI i), .null, .null] ⟨Or.inl rfl, ⟨Or.inl rfl, ⟨Or.inl rfl, ⟨Or.inl rfl, ⟨Or.inl rfl, ⟨Or.inr rfl, ⟨Or.inl rfl, trivial⟩⟩⟩⟩⟩⟩⟩ ?_
  exact kk _ _ _ (by show u + 2 ≤ u + 8; omega) (by show us + 12 ≤ us + 40; omega)
set_option maxRecDepth 100000 in
set_option maxHeartbeats 4000000 in
theorem lk_copy_ok {L i u us : Nat} {xs : Nat → Int32} {μ μ1 μ2 : zMu} {g : Int64} {v : Int32} {o : zO} (hi : i + 6 ≤ L) (hL : L ≤ 3072) (hu : u + 8 ≤ 601024) (hus : us + 40 ≤ 7293034) (c1 : zCt (L, xs) kX7_copy [.ref (1), .int (xs (i + 1)), .int (xs (i + 2)), .int (xs (i + 3)), .int (xs (i + 4))] (zm μ g) (.inl (some (.int v)), zm μ1 g)) (c2 : ∀ g9, zCt (L, xs) kX8_copy [.ref (117), .int (xs (i + 1)), .int (xs (i + 2)), .int (xs (i + 3)), .int (xs (i + 4))] (zm μ1 g9) (.inl (some (.int v)), zm μ2 g9)) (c3 : μ2 117 0 = nI 0) (kk : ∀ g2 u9 us9, u9 ≤ u + 8 → us9 ≤ us + 40 → zV true (L, xs) kL_law 0 o 1835 [.ref (0), .ref (1), .ref (117), .ref (145), .int (nI i), .null, .null] [] (zm μ2 g2) u9 us9) : zV true (L, xs) kL_law 0 o 572 [.ref (0), .ref (1), .ref (117), .ref (145), .int (nI i), .null, .null] [] (zm μ g) u us := by
  refine z_aload_n rfl rfl dL_law_572 ?_
  refine z_aload_n rfl rfl dL_law_573 ?_
  refine z_iload rfl dL_law_574 ?_
  refine z_iconst (nI 1) (by decide) dL_law_576 ?_
  refine m_addN dL_law_577 ?_
  refine m_sld (i + 1) (by omega) (by omega) dL_law_578 ?_
  refine z_aload_n rfl rfl dL_law_579 ?_
  refine z_iload rfl dL_law_580 ?_
  refine z_iconst (nI 2) (by decide) dL_law_582 ?_
  refine m_addN dL_law_583 ?_
  refine m_sld (i + 2) (by omega) (by omega) dL_law_584 ?_
  refine z_aload_n rfl rfl dL_law_585 ?_
  refine z_iload rfl dL_law_586 ?_
  refine z_iconst (nI 3) (by decide) dL_law_588 ?_
  refine m_addN dL_law_589 ?_
  refine m_sld (i + 3) (by omega) (by omega) dL_law_590 ?_
  refine z_aload_n rfl rfl dL_law_591 ?_
  refine z_iload rfl dL_law_592 ?_
  refine z_iconst (nI 4) (by decide) dL_law_594 ?_
  refine m_addN dL_law_595 ?_
  refine m_sld (i + 4) (by omega) (by omega) dL_law_596 ?_
  refine z_aload_n rfl rfl dL_law_597 ?_
  refine z_callSX (as := [.ref (1), .int (xs (i + 1)), .int (xs (i + 2)), .int (xs (i + 3)), .int (xs (i + 4)), .ref (145)]) (w_copy c1) ko_L_copy kl_L_121 rfl rfl ⟨by decide, by decide, by show u + 4 ≤ 601024; omega, by show us + 24 ≤ 7293034; omega⟩ (Nat.le_of_ble_eq_true rfl) rfl dL_law_598 ?_
  refine z_istore (by decide) rfl dL_law_601 ?_
  refine z_aload_n rfl rfl dL_law_603 ?_
  refine z_aload_n rfl rfl dL_law_604 ?_
  refine z_iload rfl dL_law_605 ?_
  refine z_iconst (nI 1) (by decide) dL_law_607 ?_
  refine m_addN dL_law_608 ?_
  refine m_sld (i + 1) (by omega) (by omega) dL_law_609 ?_
  refine z_aload_n rfl rfl dL_law_610 ?_
  refine z_iload rfl dL_law_611 ?_
  refine z_iconst (nI 2) (by decide) dL_law_613 ?_
  refine m_addN dL_law_614 ?_
  refine m_sld (i + 2) (by omega) (by omega) dL_law_615 ?_
  refine z_aload_n rfl rfl dL_law_616 ?_
  refine z_iload rfl dL_law_617 ?_
  refine z_iconst (nI 3) (by decide) dL_law_619 ?_
  refine m_addN dL_law_620 ?_
  refine m_sld (i + 3) (by omega) (by omega) dL_law_621 ?_
  refine z_aload_n rfl rfl dL_law_622 ?_
  refine z_iload rfl dL_law_623 ?_
  refine z_iconst (nI 4) (by decide) dL_law_625 ?_
  refine m_addN dL_law_626 ?_
  refine m_sld (i + 4) (by omega) (by omega) dL_law_627 ?_
  refine z_callV (as := [.int (xs (i + 1)), .int (xs (i + 2)), .int (xs (i + 3)), .int (xs (i + 4))]) (c2 _) ko_X8_copy kl_L_124 rfl (zl_a rfl rfl) rfl rfl ⟨by decide, by decide, by show u + 4 ≤ 601024; omega, by show us + 24 ≤ 7293034; omega⟩ (Nat.le_of_ble_eq_true rfl) rfl dL_law_628 ?_
  refine z_istore (by decide) rfl dL_law_631 ?_
  refine z_aload_n rfl rfl dL_law_633 ?_
  refine z_callV (as := []) (ct_thr c3) ko_X8_thrown kl_L_99 rfl (zl_a rfl rfl) rfl rfl ⟨by decide, by decide, by show u + 4 ≤ 601024; omega, by show us + 24 ≤ 7293034; omega⟩ (Nat.le_of_ble_eq_true rfl) rfl dL_law_634 ?_
  refine z_iload rfl dL_law_637 ?_
  refine z_icmp_eq 644 (by decide) dL_law_639 (fun _ => ?_) (fun h => absurd h (by decide))
  refine z_iload rfl dL_law_644 ?_
  refine z_if_ne 661 (by decide) dL_law_646 (fun h => absurd h (by decide)) (fun _ => ?_)
  refine z_aload_n rfl rfl dL_law_649 ?_
  refine z_iconst (nI 0) (by decide) dL_law_650 ?_
  refine z_lald (zl_a rfl rfl) (vp_in_nI (by decide) (by decide)) dL_law_651 ?_
  refine z_iload rfl dL_law_652 ?_
  refine z_i2l dL_law_654 ?_
  refine z_lcmp dL_law_655 ?_
  refine m_eqv (w := nI 0) (lg_self _) ?_
  refine z_if_eq 661 (by decide) dL_law_656 (fun _ => ?_) (fun h => absurd h (by decide))
  refine z_goto 1835 (by decide) dL_law_661 ?_
  refine z_fgt [.ref (0), .ref (1), .ref (117), .ref (145), .int (nI i), .null, .null] ⟨Or.inl rfl, ⟨Or.inl rfl, ⟨Or.inl rfl, ⟨Or.inl rfl, ⟨Or.inl rfl, ⟨Or.inr rfl, ⟨Or.inr rfl, trivial⟩⟩⟩⟩⟩⟩⟩ ?_
  exact kk _ _ _ (by show u + 4 ≤ u + 8; omega) (by show us + 24 ≤ us + 40; omega)
set_option maxRecDepth 100000 in
set_option maxHeartbeats 4000000 in
theorem lk_copy_I {L i u us : Nat} {xs : Nat → Int32} {μ μ1 μ2 : zMu} {g : Int64} {w : Int32} {o : zO} (hi : i + 6 ≤ L) (hL : L ≤ 3072) (hu : u + 8 ≤ 601024) (hus : us + 40 ≤ 7293034) (c1 : zCt (L, xs) kX7_copy [.ref (1), .int (xs (i + 1)), .int (xs (i + 2)), .int (xs (i + 3)), .int (xs (i + 4))] (zm μ g) (.inr xI, zm μ g)) (c2 : ∀ g9, zCt (L, xs) kX8_copy [.ref (117), .int (xs (i + 1)), .int (xs (i + 2)), .int (xs (i + 3)), .int (xs (i + 4))] (zm μ g9) (.inl (some (.int w)), zm μ2 g9)) (c3 : μ2 117 0 = nI 1) (kk : ∀ g2 u9 us9, u9 ≤ u + 8 → us9 ≤ us + 40 → zV true (L, xs) kL_law 0 o 1835 [.ref (0), .ref (1), .ref (117), .ref (145), .int (nI i), .null, .null] [] (zm μ2 g2) u9 us9) : zV true (L, xs) kL_law 0 o 572 [.ref (0), .ref (1), .ref (117), .ref (145), .int (nI i), .null, .null] [] (zm μ g) u us := by
  refine z_aload_n rfl rfl dL_law_572 ?_
  refine z_aload_n rfl rfl dL_law_573 ?_
  refine z_iload rfl dL_law_574 ?_
  refine z_iconst (nI 1) (by decide) dL_law_576 ?_
  refine m_addN dL_law_577 ?_
  refine m_sld (i + 1) (by omega) (by omega) dL_law_578 ?_
  refine z_aload_n rfl rfl dL_law_579 ?_
  refine z_iload rfl dL_law_580 ?_
  refine z_iconst (nI 2) (by decide) dL_law_582 ?_
  refine m_addN dL_law_583 ?_
  refine m_sld (i + 2) (by omega) (by omega) dL_law_584 ?_
  refine z_aload_n rfl rfl dL_law_585 ?_
  refine z_iload rfl dL_law_586 ?_
  refine z_iconst (nI 3) (by decide) dL_law_588 ?_
  refine m_addN dL_law_589 ?_
  refine m_sld (i + 3) (by omega) (by omega) dL_law_590 ?_
  refine z_aload_n rfl rfl dL_law_591 ?_
  refine z_iload rfl dL_law_592 ?_
  refine z_iconst (nI 4) (by decide) dL_law_594 ?_
  refine m_addN dL_law_595 ?_
  refine m_sld (i + 4) (by omega) (by omega) dL_law_596 ?_
  refine z_aload_n rfl rfl dL_law_597 ?_
  refine z_callSX (as := [.ref (1), .int (xs (i + 1)), .int (xs (i + 2)), .int (xs (i + 3)), .int (xs (i + 4)), .ref (145)]) (wI_copy c1) ko_L_copy kl_L_121 rfl rfl ⟨by decide, by decide, by show u + 4 ≤ 601024; omega, by show us + 24 ≤ 7293034; omega⟩ (Nat.le_of_ble_eq_true rfl) rfl dL_law_598 ?_
  refine z_istore (by decide) rfl dL_law_601 ?_
  refine z_aload_n rfl rfl dL_law_603 ?_
  refine z_aload_n rfl rfl dL_law_604 ?_
  refine z_iload rfl dL_law_605 ?_
  refine z_iconst (nI 1) (by decide) dL_law_607 ?_
  refine m_addN dL_law_608 ?_
  refine m_sld (i + 1) (by omega) (by omega) dL_law_609 ?_
  refine z_aload_n rfl rfl dL_law_610 ?_
  refine z_iload rfl dL_law_611 ?_
  refine z_iconst (nI 2) (by decide) dL_law_613 ?_
  refine m_addN dL_law_614 ?_
  refine m_sld (i + 2) (by omega) (by omega) dL_law_615 ?_
  refine z_aload_n rfl rfl dL_law_616 ?_
  refine z_iload rfl dL_law_617 ?_
  refine z_iconst (nI 3) (by decide) dL_law_619 ?_
  refine m_addN dL_law_620 ?_
  refine m_sld (i + 3) (by omega) (by omega) dL_law_621 ?_
  refine z_aload_n rfl rfl dL_law_622 ?_
  refine z_iload rfl dL_law_623 ?_
  refine z_iconst (nI 4) (by decide) dL_law_625 ?_
  refine m_addN dL_law_626 ?_
  refine m_sld (i + 4) (by omega) (by omega) dL_law_627 ?_
  refine z_callV (as := [.int (xs (i + 1)), .int (xs (i + 2)), .int (xs (i + 3)), .int (xs (i + 4))]) (c2 _) ko_X8_copy kl_L_124 rfl (zl_a rfl rfl) rfl rfl ⟨by decide, by decide, by show u + 4 ≤ 601024; omega, by show us + 24 ≤ 7293034; omega⟩ (Nat.le_of_ble_eq_true rfl) rfl dL_law_628 ?_
  refine z_istore (by decide) rfl dL_law_631 ?_
  refine z_aload_n rfl rfl dL_law_633 ?_
  refine z_callV (as := []) (ct_thr c3) ko_X8_thrown kl_L_99 rfl (zl_a rfl rfl) rfl rfl ⟨by decide, by decide, by show u + 4 ≤ 601024; omega, by show us + 24 ≤ 7293034; omega⟩ (Nat.le_of_ble_eq_true rfl) rfl dL_law_634 ?_
  refine z_iload rfl dL_law_637 ?_
  refine z_icmp_eq 644 (by decide) dL_law_639 (fun _ => ?_) (fun h => absurd h (by decide))
  refine z_iload rfl dL_law_644 ?_
  refine z_if_ne 661 (by decide) dL_law_646 (fun _ => ?_) (fun h => absurd h (by decide))
  refine z_goto 1835 (by decide) dL_law_661 ?_
  refine z_fgt [.ref (0), .ref (1), .ref (117), .ref (145), .int (nI i), .null, .null] ⟨Or.inl rfl, ⟨Or.inl rfl, ⟨Or.inl rfl, ⟨Or.inl rfl, ⟨Or.inl rfl, ⟨Or.inr rfl, ⟨Or.inr rfl, trivial⟩⟩⟩⟩⟩⟩⟩ ?_
  exact kk _ _ _ (by show u + 4 ≤ u + 8; omega) (by show us + 24 ≤ us + 40; omega)
set_option maxRecDepth 100000 in
set_option maxHeartbeats 4000000 in
theorem lk_copy_A {L i u us : Nat} {xs : Nat → Int32} {μ μ1 μ2 : zMu} {g : Int64} {w : Int32} {o : zO} (hi : i + 6 ≤ L) (hL : L ≤ 3072) (hu : u + 8 ≤ 601024) (hus : us + 40 ≤ 7293034) (c1 : zCt (L, xs) kX7_copy [.ref (1), .int (xs (i + 1)), .int (xs (i + 2)), .int (xs (i + 3)), .int (xs (i + 4))] (zm μ g) (.inr xA, zm μ g)) (c2 : ∀ g9, zCt (L, xs) kX8_copy [.ref (117), .int (xs (i + 1)), .int (xs (i + 2)), .int (xs (i + 3)), .int (xs (i + 4))] (zm μ g9) (.inl (some (.int w)), zm μ2 g9)) (c3 : μ2 117 0 = nI 2) (kk : ∀ g2 u9 us9, u9 ≤ u + 8 → us9 ≤ us + 40 → zV true (L, xs) kL_law 0 o 1835 [.ref (0), .ref (1), .ref (117), .ref (145), .int (nI i), .null, .null] [] (zm μ2 g2) u9 us9) : zV true (L, xs) kL_law 0 o 572 [.ref (0), .ref (1), .ref (117), .ref (145), .int (nI i), .null, .null] [] (zm μ g) u us := by
  refine z_aload_n rfl rfl dL_law_572 ?_
  refine z_aload_n rfl rfl dL_law_573 ?_
  refine z_iload rfl dL_law_574 ?_
  refine z_iconst (nI 1) (by decide) dL_law_576 ?_
  refine m_addN dL_law_577 ?_
  refine m_sld (i + 1) (by omega) (by omega) dL_law_578 ?_
  refine z_aload_n rfl rfl dL_law_579 ?_
  refine z_iload rfl dL_law_580 ?_
  refine z_iconst (nI 2) (by decide) dL_law_582 ?_
  refine m_addN dL_law_583 ?_
  refine m_sld (i + 2) (by omega) (by omega) dL_law_584 ?_
  refine z_aload_n rfl rfl dL_law_585 ?_
  refine z_iload rfl dL_law_586 ?_
  refine z_iconst (nI 3) (by decide) dL_law_588 ?_
  refine m_addN dL_law_589 ?_
  refine m_sld (i + 3) (by omega) (by omega) dL_law_590 ?_
  refine z_aload_n rfl rfl dL_law_591 ?_
  refine z_iload rfl dL_law_592 ?_
  refine z_iconst (nI 4) (by decide) dL_law_594 ?_
  refine m_addN dL_law_595 ?_
  refine m_sld (i + 4) (by omega) (by omega) dL_law_596 ?_
  refine z_aload_n rfl rfl dL_law_597 ?_
  refine z_callSX (as := [.ref (1), .int (xs (i + 1)), .int (xs (i + 2)), .int (xs (i + 3)), .int (xs (i + 4)), .ref (145)]) (wA_copy c1) ko_L_copy kl_L_121 rfl rfl ⟨by decide, by decide, by show u + 4 ≤ 601024; omega, by show us + 24 ≤ 7293034; omega⟩ (Nat.le_of_ble_eq_true rfl) rfl dL_law_598 ?_
  refine z_istore (by decide) rfl dL_law_601 ?_
  refine z_aload_n rfl rfl dL_law_603 ?_
  refine z_aload_n rfl rfl dL_law_604 ?_
  refine z_iload rfl dL_law_605 ?_
  refine z_iconst (nI 1) (by decide) dL_law_607 ?_
  refine m_addN dL_law_608 ?_
  refine m_sld (i + 1) (by omega) (by omega) dL_law_609 ?_
  refine z_aload_n rfl rfl dL_law_610 ?_
  refine z_iload rfl dL_law_611 ?_
  refine z_iconst (nI 2) (by decide) dL_law_613 ?_
  refine m_addN dL_law_614 ?_
  refine m_sld (i + 2) (by omega) (by omega) dL_law_615 ?_
  refine z_aload_n rfl rfl dL_law_616 ?_
  refine z_iload rfl dL_law_617 ?_
  refine z_iconst (nI 3) (by decide) dL_law_619 ?_
  refine m_addN dL_law_620 ?_
  refine m_sld (i + 3) (by omega) (by omega) dL_law_621 ?_
  refine z_aload_n rfl rfl dL_law_622 ?_
  refine z_iload rfl dL_law_623 ?_
  refine z_iconst (nI 4) (by decide) dL_law_625 ?_
  refine m_addN dL_law_626 ?_
  refine m_sld (i + 4) (by omega) (by omega) dL_law_627 ?_
  refine z_callV (as := [.int (xs (i + 1)), .int (xs (i + 2)), .int (xs (i + 3)), .int (xs (i + 4))]) (c2 _) ko_X8_copy kl_L_124 rfl (zl_a rfl rfl) rfl rfl ⟨by decide, by decide, by show u + 4 ≤ 601024; omega, by show us + 24 ≤ 7293034; omega⟩ (Nat.le_of_ble_eq_true rfl) rfl dL_law_628 ?_
  refine z_istore (by decide) rfl dL_law_631 ?_
  refine z_aload_n rfl rfl dL_law_633 ?_
  refine z_callV (as := []) (ct_thr c3) ko_X8_thrown kl_L_99 rfl (zl_a rfl rfl) rfl rfl ⟨by decide, by decide, by show u + 4 ≤ 601024; omega, by show us + 24 ≤ 7293034; omega⟩ (Nat.le_of_ble_eq_true rfl) rfl dL_law_634 ?_
  refine z_iload rfl dL_law_637 ?_
  refine z_icmp_eq 644 (by decide) dL_law_639 (fun _ => ?_) (fun h => absurd h (by decide))
  refine z_iload rfl dL_law_644 ?_
  refine z_if_ne 661 (by decide) dL_law_646 (fun _ => ?_) (fun h => absurd h (by decide))
  refine z_goto 1835 (by decide) dL_law_661 ?_
  refine z_fgt [.ref (0), .ref (1), .ref (117), .ref (145), .int (nI i), .null, .null] ⟨Or.inl rfl, ⟨Or.inl rfl, ⟨Or.inl rfl, ⟨Or.inl rfl, ⟨Or.inl rfl, ⟨Or.inr rfl, ⟨Or.inr rfl, trivial⟩⟩⟩⟩⟩⟩⟩ ?_
  exact kk _ _ _ (by show u + 4 ≤ u + 8; omega) (by show us + 24 ≤ us + 40; omega)
set_option maxRecDepth 100000 in
set_option maxHeartbeats 4000000 in
theorem lk_copy_S {L i u us : Nat} {xs : Nat → Int32} {μ μ1 μ2 : zMu} {g : Int64} {w : Int32} {o : zO} (hi : i + 6 ≤ L) (hL : L ≤ 3072) (hu : u + 8 ≤ 601024) (hus : us + 40 ≤ 7293034) (c1 : zCt (L, xs) kX7_copy [.ref (1), .int (xs (i + 1)), .int (xs (i + 2)), .int (xs (i + 3)), .int (xs (i + 4))] (zm μ g) (.inr xS, zm μ g)) (c2 : ∀ g9, zCt (L, xs) kX8_copy [.ref (117), .int (xs (i + 1)), .int (xs (i + 2)), .int (xs (i + 3)), .int (xs (i + 4))] (zm μ g9) (.inl (some (.int w)), zm μ2 g9)) (c3 : μ2 117 0 = nI 3) (kk : ∀ g2 u9 us9, u9 ≤ u + 8 → us9 ≤ us + 40 → zV true (L, xs) kL_law 0 o 1835 [.ref (0), .ref (1), .ref (117), .ref (145), .int (nI i), .null, .null] [] (zm μ2 g2) u9 us9) : zV true (L, xs) kL_law 0 o 572 [.ref (0), .ref (1), .ref (117), .ref (145), .int (nI i), .null, .null] [] (zm μ g) u us := by
  refine z_aload_n rfl rfl dL_law_572 ?_
  refine z_aload_n rfl rfl dL_law_573 ?_
  refine z_iload rfl dL_law_574 ?_
  refine z_iconst (nI 1) (by decide) dL_law_576 ?_
  refine m_addN dL_law_577 ?_
  refine m_sld (i + 1) (by omega) (by omega) dL_law_578 ?_
  refine z_aload_n rfl rfl dL_law_579 ?_
  refine z_iload rfl dL_law_580 ?_
  refine z_iconst (nI 2) (by decide) dL_law_582 ?_
  refine m_addN dL_law_583 ?_
  refine m_sld (i + 2) (by omega) (by omega) dL_law_584 ?_
  refine z_aload_n rfl rfl dL_law_585 ?_
  refine z_iload rfl dL_law_586 ?_
  refine z_iconst (nI 3) (by decide) dL_law_588 ?_
  refine m_addN dL_law_589 ?_
  refine m_sld (i + 3) (by omega) (by omega) dL_law_590 ?_
  refine z_aload_n rfl rfl dL_law_591 ?_
  refine z_iload rfl dL_law_592 ?_
  refine z_iconst (nI 4) (by decide) dL_law_594 ?_
  refine m_addN dL_law_595 ?_
  refine m_sld (i + 4) (by omega) (by omega) dL_law_596 ?_
  refine z_aload_n rfl rfl dL_law_597 ?_
  refine z_callSX (as := [.ref (1), .int (xs (i + 1)), .int (xs (i + 2)), .int (xs (i + 3)), .int (xs (i + 4)), .ref (145)]) (wS_copy c1) ko_L_copy kl_L_121 rfl rfl ⟨by decide, by decide, by show u + 4 ≤ 601024; omega, by show us + 24 ≤ 7293034; omega⟩ (Nat.le_of_ble_eq_true rfl) rfl dL_law_598 ?_
  refine z_istore (by decide) rfl dL_law_601 ?_
  refine z_aload_n rfl rfl dL_law_603 ?_
  refine z_aload_n rfl rfl dL_law_604 ?_
  refine z_iload rfl dL_law_605 ?_
  refine z_iconst (nI 1) (by decide) dL_law_607 ?_
  refine m_addN dL_law_608 ?_
  refine m_sld (i + 1) (by omega) (by omega) dL_law_609 ?_
  refine z_aload_n rfl rfl dL_law_610 ?_
  refine z_iload rfl dL_law_611 ?_
  refine z_iconst (nI 2) (by decide) dL_law_613 ?_
  refine m_addN dL_law_614 ?_
  refine m_sld (i + 2) (by omega) (by omega) dL_law_615 ?_
  refine z_aload_n rfl rfl dL_law_616 ?_
  refine z_iload rfl dL_law_617 ?_
  refine z_iconst (nI 3) (by decide) dL_law_619 ?_
  refine m_addN dL_law_620 ?_
  refine m_sld (i + 3) (by omega) (by omega) dL_law_621 ?_
  refine z_aload_n rfl rfl dL_law_622 ?_
  refine z_iload rfl dL_law_623 ?_
  refine z_iconst (nI 4) (by decide) dL_law_625 ?_
  refine m_addN dL_law_626 ?_
  refine m_sld (i + 4) (by omega) (by omega) dL_law_627 ?_
  refine z_callV (as := [.int (xs (i + 1)), .int (xs (i + 2)), .int (xs (i + 3)), .int (xs (i + 4))]) (c2 _) ko_X8_copy kl_L_124 rfl (zl_a rfl rfl) rfl rfl ⟨by decide, by decide, by show u + 4 ≤ 601024; omega, by show us + 24 ≤ 7293034; omega⟩ (Nat.le_of_ble_eq_true rfl) rfl dL_law_628 ?_
  refine z_istore (by decide) rfl dL_law_631 ?_
  refine z_aload_n rfl rfl dL_law_633 ?_
  refine z_callV (as := []) (ct_thr c3) ko_X8_thrown kl_L_99 rfl (zl_a rfl rfl) rfl rfl ⟨by decide, by decide, by show u + 4 ≤ 601024; omega, by show us + 24 ≤ 7293034; omega⟩ (Nat.le_of_ble_eq_true rfl) rfl dL_law_634 ?_
  refine z_iload rfl dL_law_637 ?_
  refine z_icmp_eq 644 (by decide) dL_law_639 (fun _ => ?_) (fun h => absurd h (by decide))
  refine z_iload rfl dL_law_644 ?_
  refine z_if_ne 661 (by decide) dL_law_646 (fun _ => ?_) (fun h => absurd h (by decide))
  refine z_goto 1835 (by decide) dL_law_661 ?_
  refine z_fgt [.ref (0), .ref (1), .ref (117), .ref (145), .int (nI i), .null, .null] ⟨Or.inl rfl, ⟨Or.inl rfl, ⟨Or.inl rfl, ⟨Or.inl rfl, ⟨Or.inl rfl, ⟨Or.inr rfl, ⟨Or.inr rfl, trivial⟩⟩⟩⟩⟩⟩⟩ ?_
  exact kk _ _ _ (by show u + 4 ≤ u + 8; omega) (by show us + 24 ≤ us + 40; omega)
set_option maxRecDepth 100000 in
set_option maxHeartbeats 4000000 in
theorem lk_paste_ok {L i u us : Nat} {xs : Nat → Int32} {μ μ1 μ2 : zMu} {g : Int64} {v : Int32} {o : zO} (hi : i + 6 ≤ L) (hL : L ≤ 3072) (hu : u + 8 ≤ 601024) (hus : us + 40 ≤ 7293034) (c1 : zCt (L, xs) kX7_paste [.ref (1), .int (xs (i + 1)), .int (xs (i + 2)), .int (xs (i + 3)), .int (xs (i + 4))] (zm μ g) (.inl (some (.int v)), zm μ1 g)) (c2 : ∀ g9, zCt (L, xs) kX8_paste [.ref (117), .int (xs (i + 1)), .int (xs (i + 2)), .int (xs (i + 3)), .int (xs (i + 4))] (zm μ1 g9) (.inl (some (.int v)), zm μ2 g9)) (c3 : μ2 117 0 = nI 0) (kk : ∀ g2 u9 us9, u9 ≤ u + 8 → us9 ≤ us + 40 → zV true (L, xs) kL_law 0 o 1835 [.ref (0), .ref (1), .ref (117), .ref (145), .int (nI i), .null, .null] [] (zm μ2 g2) u9 us9) : zV true (L, xs) kL_law 0 o 664 [.ref (0), .ref (1), .ref (117), .ref (145), .int (nI i), .null, .null] [] (zm μ g) u us := by
  refine z_aload_n rfl rfl dL_law_664 ?_
  refine z_aload_n rfl rfl dL_law_665 ?_
  refine z_iload rfl dL_law_666 ?_
  refine z_iconst (nI 1) (by decide) dL_law_668 ?_
  refine m_addN dL_law_669 ?_
  refine m_sld (i + 1) (by omega) (by omega) dL_law_670 ?_
  refine z_aload_n rfl rfl dL_law_671 ?_
  refine z_iload rfl dL_law_672 ?_
  refine z_iconst (nI 2) (by decide) dL_law_674 ?_
  refine m_addN dL_law_675 ?_
  refine m_sld (i + 2) (by omega) (by omega) dL_law_676 ?_
  refine z_aload_n rfl rfl dL_law_677 ?_
  refine z_iload rfl dL_law_678 ?_
  refine z_iconst (nI 3) (by decide) dL_law_680 ?_
  refine m_addN dL_law_681 ?_
  refine m_sld (i + 3) (by omega) (by omega) dL_law_682 ?_
  refine z_aload_n rfl rfl dL_law_683 ?_
  refine z_iload rfl dL_law_684 ?_
  refine z_iconst (nI 4) (by decide) dL_law_686 ?_
  refine m_addN dL_law_687 ?_
  refine m_sld (i + 4) (by omega) (by omega) dL_law_688 ?_
  refine z_aload_n rfl rfl dL_law_689 ?_
  refine z_callSX (as := [.ref (1), .int (xs (i + 1)), .int (xs (i + 2)), .int (xs (i + 3)), .int (xs (i + 4)), .ref (145)]) (w_paste c1) ko_L_paste kl_L_125 rfl rfl ⟨by decide, by decide, by show u + 5 ≤ 601024; omega, by show us + 30 ≤ 7293034; omega⟩ (Nat.le_of_ble_eq_true rfl) rfl dL_law_690 ?_
  refine z_istore (by decide) rfl dL_law_693 ?_
  refine z_aload_n rfl rfl dL_law_695 ?_
  refine z_aload_n rfl rfl dL_law_696 ?_
  refine z_iload rfl dL_law_697 ?_
  refine z_iconst (nI 1) (by decide) dL_law_699 ?_
  refine m_addN dL_law_700 ?_
  refine m_sld (i + 1) (by omega) (by omega) dL_law_701 ?_
  refine z_aload_n rfl rfl dL_law_702 ?_
  refine z_iload rfl dL_law_703 ?_
  refine z_iconst (nI 2) (by decide) dL_law_705 ?_
  refine m_addN dL_law_706 ?_
  refine m_sld (i + 2) (by omega) (by omega) dL_law_707 ?_
  refine z_aload_n rfl rfl dL_law_708 ?_
  refine z_iload rfl dL_law_709 ?_
  refine z_iconst (nI 3) (by decide) dL_law_711 ?_
  refine m_addN dL_law_712 ?_
  refine m_sld (i + 3) (by omega) (by omega) dL_law_713 ?_
  refine z_aload_n rfl rfl dL_law_714 ?_
  refine z_iload rfl dL_law_715 ?_
  refine z_iconst (nI 4) (by decide) dL_law_717 ?_
  refine m_addN dL_law_718 ?_
  refine m_sld (i + 4) (by omega) (by omega) dL_law_719 ?_
  refine z_callV (as := [.int (xs (i + 1)), .int (xs (i + 2)), .int (xs (i + 3)), .int (xs (i + 4))]) (c2 _) ko_X8_paste kl_L_127 rfl (zl_a rfl rfl) rfl rfl ⟨by decide, by decide, by show u + 5 ≤ 601024; omega, by show us + 30 ≤ 7293034; omega⟩ (Nat.le_of_ble_eq_true rfl) rfl dL_law_720 ?_
  refine z_istore (by decide) rfl dL_law_723 ?_
  refine z_aload_n rfl rfl dL_law_725 ?_
  refine z_callV (as := []) (ct_thr c3) ko_X8_thrown kl_L_99 rfl (zl_a rfl rfl) rfl rfl ⟨by decide, by decide, by show u + 5 ≤ 601024; omega, by show us + 30 ≤ 7293034; omega⟩ (Nat.le_of_ble_eq_true rfl) rfl dL_law_726 ?_
  refine z_iload rfl dL_law_729 ?_
  refine z_icmp_eq 736 (by decide) dL_law_731 (fun _ => ?_) (fun h => absurd h (by decide))
  refine z_iload rfl dL_law_736 ?_
  refine z_if_ne 753 (by decide) dL_law_738 (fun h => absurd h (by decide)) (fun _ => ?_)
  refine z_aload_n rfl rfl dL_law_741 ?_
  refine z_iconst (nI 0) (by decide) dL_law_742 ?_
  refine z_lald (zl_a rfl rfl) (vp_in_nI (by decide) (by decide)) dL_law_743 ?_
  refine z_iload rfl dL_law_744 ?_
  refine z_i2l dL_law_746 ?_
  refine z_lcmp dL_law_747 ?_
  refine m_eqv (w := nI 0) (lg_self _) ?_
  refine z_if_eq 753 (by decide) dL_law_748 (fun _ => ?_) (fun h => absurd h (by decide))
  refine z_goto 1835 (by decide) dL_law_753 ?_
  refine z_fgt [.ref (0), .ref (1), .ref (117), .ref (145), .int (nI i), .null, .null] ⟨Or.inl rfl, ⟨Or.inl rfl, ⟨Or.inl rfl, ⟨Or.inl rfl, ⟨Or.inl rfl, ⟨Or.inr rfl, ⟨Or.inr rfl, trivial⟩⟩⟩⟩⟩⟩⟩ ?_
  exact kk _ _ _ (by show u + 5 ≤ u + 8; omega) (by show us + 30 ≤ us + 40; omega)
set_option maxRecDepth 100000 in
set_option maxHeartbeats 4000000 in
theorem lk_paste_I {L i u us : Nat} {xs : Nat → Int32} {μ μ1 μ2 : zMu} {g : Int64} {w : Int32} {o : zO} (hi : i + 6 ≤ L) (hL : L ≤ 3072) (hu : u + 8 ≤ 601024) (hus : us + 40 ≤ 7293034) (c1 : zCt (L, xs) kX7_paste [.ref (1), .int (xs (i + 1)), .int (xs (i + 2)), .int (xs (i + 3)), .int (xs (i + 4))] (zm μ g) (.inr xI, zm μ g)) (c2 : ∀ g9, zCt (L, xs) kX8_paste [.ref (117), .int (xs (i + 1)), .int (xs (i + 2)), .int (xs (i + 3)), .int (xs (i + 4))] (zm μ g9) (.inl (some (.int w)), zm μ2 g9)) (c3 : μ2 117 0 = nI 1) (kk : ∀ g2 u9 us9, u9 ≤ u + 8 → us9 ≤ us + 40 → zV true (L, xs) kL_law 0 o 1835 [.ref (0), .ref (1), .ref (117), .ref (145), .int (nI i), .null, .null] [] (zm μ2 g2) u9 us9) : zV true (L, xs) kL_law 0 o 664 [.ref (0), .ref (1), .ref (117), .ref (145), .int (nI i), .null, .null] [] (zm μ g) u us := by
  refine z_aload_n rfl rfl dL_law_664 ?_
  refine z_aload_n rfl rfl dL_law_665 ?_
  refine z_iload rfl dL_law_666 ?_
  refine z_iconst (nI 1) (by decide) dL_law_668 ?_
  refine m_addN dL_law_669 ?_
  refine m_sld (i + 1) (by omega) (by omega) dL_law_670 ?_
  refine z_aload_n rfl rfl dL_law_671 ?_
  refine z_iload rfl dL_law_672 ?_
  refine z_iconst (nI 2) (by decide) dL_law_674 ?_
  refine m_addN dL_law_675 ?_
  refine m_sld (i + 2) (by omega) (by omega) dL_law_676 ?_
  refine z_aload_n rfl rfl dL_law_677 ?_
  refine z_iload rfl dL_law_678 ?_
  refine z_iconst (nI 3) (by decide) dL_law_680 ?_
  refine m_addN dL_law_681 ?_
  refine m_sld (i + 3) (by omega) (by omega) dL_law_682 ?_
  refine z_aload_n rfl rfl dL_law_683 ?_
  refine z_iload rfl dL_law_684 ?_
  refine z_iconst (nI 4) (by decide) dL_law_686 ?_
  refine m_addN dL_law_687 ?_
  refine m_sld (i + 4) (by omega) (by omega) dL_law_688 ?_
  refine z_aload_n rfl rfl dL_law_689 ?_
  refine z_callSX (as := [.ref (1), .int (xs (i + 1)), .int (xs (i + 2)), .int (xs (i + 3)), .int (xs (i + 4)), .ref (145)]) (wI_paste c1) ko_L_paste kl_L_125 rfl rfl ⟨by decide, by decide, by show u + 5 ≤ 601024; omega, by show us + 30 ≤ 7293034; omega⟩ (Nat.le_of_ble_eq_true rfl) rfl dL_law_690 ?_
  refine z_istore (by decide) rfl dL_law_693 ?_
  refine z_aload_n rfl rfl dL_law_695 ?_
  refine z_aload_n rfl rfl dL_law_696 ?_
  refine z_iload rfl dL_law_697 ?_
  refine z_iconst (nI 1) (by decide) dL_law_699 ?_
  refine m_addN dL_law_700 ?_
  refine m_sld (i + 1) (by omega) (by omega) dL_law_701 ?_
  refine z_aload_n rfl rfl dL_law_702 ?_
  refine z_iload rfl dL_law_703 ?_
  refine z_iconst (nI 2) (by decide) dL_law_705 ?_
  refine m_addN dL_law_706 ?_
  refine m_sld (i + 2) (by omega) (by omega) dL_law_707 ?_
  refine z_aload_n rfl rfl dL_law_708 ?_
  refine z_iload rfl dL_law_709 ?_
  refine z_iconst (nI 3) (by decide) dL_law_711 ?_
  refine m_addN dL_law_712 ?_
  refine m_sld (i + 3) (by omega) (by omega) dL_law_713 ?_
  refine z_aload_n rfl rfl dL_law_714 ?_
  refine z_iload rfl dL_law_715 ?_
  refine z_iconst (nI 4) (by decide) dL_law_717 ?_
  refine m_addN dL_law_718 ?_
  refine m_sld (i + 4) (by omega) (by omega) dL_law_719 ?_
  refine z_callV (as := [.int (xs (i + 1)), .int (xs (i + 2)), .int (xs (i + 3)), .int (xs (i + 4))]) (c2 _) ko_X8_paste kl_L_127 rfl (zl_a rfl rfl) rfl rfl ⟨by decide, by decide, by show u + 5 ≤ 601024; omega, by show us + 30 ≤ 7293034; omega⟩ (Nat.le_of_ble_eq_true rfl) rfl dL_law_720 ?_
  refine z_istore (by decide) rfl dL_law_723 ?_
  refine z_aload_n rfl rfl dL_law_725 ?_
  refine z_callV (as := []) (ct_thr c3) ko_X8_thrown kl_L_99 rfl (zl_a rfl rfl) rfl rfl ⟨by decide, by decide, by show u + 5 ≤ 601024; omega, by show us + 30 ≤ 7293034; omega⟩ (Nat.le_of_ble_eq_true rfl) rfl dL_law_726 ?_
  refine z_iload rfl dL_law_729 ?_
  refine z_icmp_eq 736 (by decide) dL_law_731 (fun _ => ?_) (fun h => absurd h (by decide))
  refine z_iload rfl dL_law_736 ?_
  refine z_if_ne 753 (by decide) dL_law_738 (fun _ => ?_) (fun h => absurd h (by decide))
  refine z_goto 1835 (by decide) dL_law_753 ?_
  refine z_fgt [.ref (0), .ref (1), .ref (117), .ref (145), .int (nI i), .null, .null] ⟨Or.inl rfl, ⟨Or.inl rfl, ⟨Or.inl rfl, ⟨Or.inl rfl, ⟨Or.inl rfl, ⟨Or.inr rfl, ⟨Or.inr rfl, trivial⟩⟩⟩⟩⟩⟩⟩ ?_
  exact kk _ _ _ (by show u + 5 ≤ u + 8; omega) (by show us + 30 ≤ us + 40; omega)
set_option maxRecDepth 100000 in
set_option maxHeartbeats 4000000 in
theorem lk_paste_A {L i u us : Nat} {xs : Nat → Int32} {μ μ1 μ2 : zMu} {g : Int64} {w : Int32} {o : zO} (hi : i + 6 ≤ L) (hL : L ≤ 3072) (hu : u + 8 ≤ 601024) (hus : us + 40 ≤ 7293034) (c1 : zCt (L, xs) kX7_paste [.ref (1), .int (xs (i + 1)), .int (xs (i + 2)), .int (xs (i + 3)), .int (xs (i + 4))] (zm μ g) (.inr xA, zm μ g)) (c2 : ∀ g9, zCt (L, xs) kX8_paste [.ref (117), .int (xs (i + 1)), .int (xs (i + 2)), .int (xs (i + 3)), .int (xs (i + 4))] (zm μ g9) (.inl (some (.int w)), zm μ2 g9)) (c3 : μ2 117 0 = nI 2) (kk : ∀ g2 u9 us9, u9 ≤ u + 8 → us9 ≤ us + 40 → zV true (L, xs) kL_law 0 o 1835 [.ref (0), .ref (1), .ref (117), .ref (145), .int (nI i), .null, .null] [] (zm μ2 g2) u9 us9) : zV true (L, xs) kL_law 0 o 664 [.ref (0), .ref (1), .ref (117), .ref (145), .int (nI i), .null, .null] [] (zm μ g) u us := by
  refine z_aload_n rfl rfl dL_law_664 ?_
  refine z_aload_n rfl rfl dL_law_665 ?_
  refine z_iload rfl dL_law_666 ?_
  refine z_iconst (nI 1) (by decide) dL_law_668 ?_
  refine m_addN dL_law_669 ?_
  refine m_sld (i + 1) (by omega) (by omega) dL_law_670 ?_
  refine z_aload_n rfl rfl dL_law_671 ?_
  refine z_iload rfl dL_law_672 ?_
  refine z_iconst (nI 2) (by decide) dL_law_674 ?_
  refine m_addN dL_law_675 ?_
  refine m_sld (i + 2) (by omega) (by omega) dL_law_676 ?_
  refine z_aload_n rfl rfl dL_law_677 ?_
  refine z_iload rfl dL_law_678 ?_
  refine z_iconst (nI 3) (by decide) dL_law_680 ?_
  refine m_addN dL_law_681 ?_
  refine m_sld (i + 3) (by omega) (by omega) dL_law_682 ?_
  refine z_aload_n rfl rfl dL_law_683 ?_
  refine z_iload rfl dL_law_684 ?_
  refine z_iconst (nI 4) (by decide) dL_law_686 ?_
  refine m_addN dL_law_687 ?_
  refine m_sld (i + 4) (by omega) (by omega) dL_law_688 ?_
  refine z_aload_n rfl rfl dL_law_689 ?_
  refine z_callSX (as := [.ref (1), .int (xs (i + 1)), .int (xs (i + 2)), .int (xs (i + 3)), .int (xs (i + 4)), .ref (145)]) (wA_paste c1) ko_L_paste kl_L_125 rfl rfl ⟨by decide, by decide, by show u + 5 ≤ 601024; omega, by show us + 30 ≤ 7293034; omega⟩ (Nat.le_of_ble_eq_true rfl) rfl dL_law_690 ?_
  refine z_istore (by decide) rfl dL_law_693 ?_
  refine z_aload_n rfl rfl dL_law_695 ?_
  refine z_aload_n rfl rfl dL_law_696 ?_
  refine z_iload rfl dL_law_697 ?_
  refine z_iconst (nI 1) (by decide) dL_law_699 ?_
  refine m_addN dL_law_700 ?_
  refine m_sld (i + 1) (by omega) (by omega) dL_law_701 ?_
  refine z_aload_n rfl rfl dL_law_702 ?_
  refine z_iload rfl dL_law_703 ?_
  refine z_iconst (nI 2) (by decide) dL_law_705 ?_
  refine m_addN dL_law_706 ?_
  refine m_sld (i + 2) (by omega) (by omega) dL_law_707 ?_
  refine z_aload_n rfl rfl dL_law_708 ?_
  refine z_iload rfl dL_law_709 ?_
  refine z_iconst (nI 3) (by decide) dL_law_711 ?_
  refine m_addN dL_law_712 ?_
  refine m_sld (i + 3) (by omega) (by omega) dL_law_713 ?_
  refine z_aload_n rfl rfl dL_law_714 ?_
  refine z_iload rfl dL_law_715 ?_
  refine z_iconst (nI 4) (by decide) dL_law_717 ?_
  refine m_addN dL_law_718 ?_
  refine m_sld (i + 4) (by omega) (by omega) dL_law_719 ?_
  refine z_callV (as := [.int (xs (i + 1)), .int (xs (i + 2)), .int (xs (i + 3)), .int (xs (i + 4))]) (c2 _) ko_X8_paste kl_L_127 rfl (zl_a rfl rfl) rfl rfl ⟨by decide, by decide, by show u + 5 ≤ 601024; omega, by show us + 30 ≤ 7293034; omega⟩ (Nat.le_of_ble_eq_true rfl) rfl dL_law_720 ?_
  refine z_istore (by decide) rfl dL_law_723 ?_
  refine z_aload_n rfl rfl dL_law_725 ?_
  refine z_callV (as := []) (ct_thr c3) ko_X8_thrown kl_L_99 rfl (zl_a rfl rfl) rfl rfl ⟨by decide, by decide, by show u + 5 ≤ 601024; omega, by show us + 30 ≤ 7293034; omega⟩ (Nat.le_of_ble_eq_true rfl) rfl dL_law_726 ?_
  refine z_iload rfl dL_law_729 ?_
  refine z_icmp_eq 736 (by decide) dL_law_731 (fun _ => ?_) (fun h => absurd h (by decide))
  refine z_iload rfl dL_law_736 ?_
  refine z_if_ne 753 (by decide) dL_law_738 (fun _ => ?_) (fun h => absurd h (by decide))
  refine z_goto 1835 (by decide) dL_law_753 ?_
  refine z_fgt [.ref (0), .ref (1), .ref (117), .ref (145), .int (nI i), .null, .null] ⟨Or.inl rfl, ⟨Or.inl rfl, ⟨Or.inl rfl, ⟨Or.inl rfl, ⟨Or.inl rfl, ⟨Or.inr rfl, ⟨Or.inr rfl, trivial⟩⟩⟩⟩⟩⟩⟩ ?_
  exact kk _ _ _ (by show u + 5 ≤ u + 8; omega) (by show us + 30 ≤ us + 40; omega)
set_option maxRecDepth 100000 in
set_option maxHeartbeats 4000000 in
theorem lk_paste_S {L i u us : Nat} {xs : Nat → Int32} {μ μ1 μ2 : zMu} {g : Int64} {w : Int32} {o : zO} (hi : i + 6 ≤ L) (hL : L ≤ 3072) (hu : u + 8 ≤ 601024) (hus : us + 40 ≤ 7293034) (c1 : zCt (L, xs) kX7_paste [.ref (1), .int (xs (i + 1)), .int (xs (i + 2)), .int (xs (i + 3)), .int (xs (i + 4))] (zm μ g) (.inr xS, zm μ g)) (c2 : ∀ g9, zCt (L, xs) kX8_paste [.ref (117), .int (xs (i + 1)), .int (xs (i + 2)), .int (xs (i + 3)), .int (xs (i + 4))] (zm μ g9) (.inl (some (.int w)), zm μ2 g9)) (c3 : μ2 117 0 = nI 3) (kk : ∀ g2 u9 us9, u9 ≤ u + 8 → us9 ≤ us + 40 → zV true (L, xs) kL_law 0 o 1835 [.ref (0), .ref (1), .ref (117), .ref (145), .int (nI i), .null, .null] [] (zm μ2 g2) u9 us9) : zV true (L, xs) kL_law 0 o 664 [.ref (0), .ref (1), .ref (117), .ref (145), .int (nI i), .null, .null] [] (zm μ g) u us := by
  refine z_aload_n rfl rfl dL_law_664 ?_
  refine z_aload_n rfl rfl dL_law_665 ?_
  refine z_iload rfl dL_law_666 ?_
  refine z_iconst (nI 1) (by decide) dL_law_668 ?_
  refine m_addN dL_law_669 ?_
  refine m_sld (i + 1) (by omega) (by omega) dL_law_670 ?_
  refine z_aload_n rfl rfl dL_law_671 ?_
  refine z_iload rfl dL_law_672 ?_
  refine z_iconst (nI 2) (by decide) dL_law_674 ?_
  refine m_addN dL_law_675 ?_
  refine m_sld (i + 2) (by omega) (by omega) dL_law_676 ?_
  refine z_aload_n rfl rfl dL_law_677 ?_
  refine z_iload rfl dL_law_678 ?_
  refine z_iconst (nI 3) (by decide) dL_law_680 ?_
  refine m_addN dL_law_681 ?_
  refine m_sld (i + 3) (by omega) (by omega) dL_law_682 ?_
  refine z_aload_n rfl rfl dL_law_683 ?_
  refine z_iload rfl dL_law_684 ?_
  refine z_iconst (nI 4) (by decide) dL_law_686 ?_
  refine m_addN dL_law_687 ?_
  refine m_sld (i + 4) (by omega) (by omega) dL_law_688 ?_
  refine z_aload_n rfl rfl dL_law_689 ?_
  refine z_callSX (as := [.ref (1), .int (xs (i + 1)), .int (xs (i + 2)), .int (xs (i + 3)), .int (xs (i + 4)), .ref (145)]) (wS_paste c1) ko_L_paste kl_L_125 rfl rfl ⟨by decide, by decide, by show u + 5 ≤ 601024; omega, by show us + 30 ≤ 7293034; omega⟩ (Nat.le_of_ble_eq_true rfl) rfl dL_law_690 ?_
  refine z_istore (by decide) rfl dL_law_693 ?_
  refine z_aload_n rfl rfl dL_law_695 ?_
  refine z_aload_n rfl rfl dL_law_696 ?_
  refine z_iload rfl dL_law_697 ?_
  refine z_iconst (nI 1) (by decide) dL_law_699 ?_
  refine m_addN dL_law_700 ?_
  refine m_sld (i + 1) (by omega) (by omega) dL_law_701 ?_
  refine z_aload_n rfl rfl dL_law_702 ?_
  refine z_iload rfl dL_law_703 ?_
  refine z_iconst (nI 2) (by decide) dL_law_705 ?_
  refine m_addN dL_law_706 ?_
  refine m_sld (i + 2) (by omega) (by omega) dL_law_707 ?_
  refine z_aload_n rfl rfl dL_law_708 ?_
  refine z_iload rfl dL_law_709 ?_
  refine z_iconst (nI 3) (by decide) dL_law_711 ?_
  refine m_addN dL_law_712 ?_
  refine m_sld (i + 3) (by omega) (by omega) dL_law_713 ?_
  refine z_aload_n rfl rfl dL_law_714 ?_
  refine z_iload rfl dL_law_715 ?_
  refine z_iconst (nI 4) (by decide) dL_law_717 ?_
  refine m_addN dL_law_718 ?_
  refine m_sld (i + 4) (by omega) (by omega) dL_law_719 ?_
  refine z_callV (as := [.int (xs (i + 1)), .int (xs (i + 2)), .int (xs (i + 3)), .int (xs (i + 4))]) (c2 _) ko_X8_paste kl_L_127 rfl (zl_a rfl rfl) rfl rfl ⟨by decide, by decide, by show u + 5 ≤ 601024; omega, by show us + 30 ≤ 7293034; omega⟩ (Nat.le_of_ble_eq_true rfl) rfl dL_law_720 ?_
  refine z_istore (by decide) rfl dL_law_723 ?_
  refine z_aload_n rfl rfl dL_law_725 ?_
  refine z_callV (as := []) (ct_thr c3) ko_X8_thrown kl_L_99 rfl (zl_a rfl rfl) rfl rfl ⟨by decide, by decide, by show u + 5 ≤ 601024; omega, by show us + 30 ≤ 7293034; omega⟩ (Nat.le_of_ble_eq_true rfl) rfl dL_law_726 ?_
  refine z_iload rfl dL_law_729 ?_
  refine z_icmp_eq 736 (by decide) dL_law_731 (fun _ => ?_) (fun h => absurd h (by decide))
  refine z_iload rfl dL_law_736 ?_
  refine z_if_ne 753 (by decide) dL_law_738 (fun _ => ?_) (fun h => absurd h (by decide))
  refine z_goto 1835 (by decide) dL_law_753 ?_
  refine z_fgt [.ref (0), .ref (1), .ref (117), .ref (145), .int (nI i), .null, .null] ⟨Or.inl rfl, ⟨Or.inl rfl, ⟨Or.inl rfl, ⟨Or.inl rfl, ⟨Or.inl rfl, ⟨Or.inr rfl, ⟨Or.inr rfl, trivial⟩⟩⟩⟩⟩⟩⟩ ?_
  exact kk _ _ _ (by show u + 5 ≤ u + 8; omega) (by show us + 30 ≤ us + 40; omega)
set_option maxRecDepth 100000 in
set_option maxHeartbeats 4000000 in
theorem lk_island_ok {L i u us : Nat} {xs : Nat → Int32} {μ μ1 μ2 : zMu} {g : Int64} {v : Int32} {o : zO} (hi : i + 6 ≤ L) (hL : L ≤ 3072) (hu : u + 8 ≤ 601024) (hus : us + 40 ≤ 7293034) (c1 : zCt (L, xs) kX7_island [.ref (1), .int (xs (i + 1)), .int (xs (i + 2)), .int (xs (i + 3))] (zm μ g) (.inl (some (.int v)), zm μ1 g)) (c2 : ∀ g9, zCt (L, xs) kX8_island [.ref (117), .int (xs (i + 1)), .int (xs (i + 2)), .int (xs (i + 3))] (zm μ1 g9) (.inl (some (.int v)), zm μ2 g9)) (c3 : μ2 117 0 = nI 0) (kk : ∀ g2 u9 us9, u9 ≤ u + 8 → us9 ≤ us + 40 → zV true (L, xs) kL_law 0 o 1835 [.ref (0), .ref (1), .ref (117), .ref (145), .int (nI i), .null, .null] [] (zm μ2 g2) u9 us9) : zV true (L, xs) kL_law 0 o 756 [.ref (0), .ref (1), .ref (117), .ref (145), .int (nI i), .null, .null] [] (zm μ g) u us := by
  refine z_aload_n rfl rfl dL_law_756 ?_
  refine z_aload_n rfl rfl dL_law_757 ?_
  refine z_iload rfl dL_law_758 ?_
  refine z_iconst (nI 1) (by decide) dL_law_760 ?_
  refine m_addN dL_law_761 ?_
  refine m_sld (i + 1) (by omega) (by omega) dL_law_762 ?_
  refine z_aload_n rfl rfl dL_law_763 ?_
  refine z_iload rfl dL_law_764 ?_
  refine z_iconst (nI 2) (by decide) dL_law_766 ?_
  refine m_addN dL_law_767 ?_
  refine m_sld (i + 2) (by omega) (by omega) dL_law_768 ?_
  refine z_aload_n rfl rfl dL_law_769 ?_
  refine z_iload rfl dL_law_770 ?_
  refine z_iconst (nI 3) (by decide) dL_law_772 ?_
  refine m_addN dL_law_773 ?_
  refine m_sld (i + 3) (by omega) (by omega) dL_law_774 ?_
  refine z_aload_n rfl rfl dL_law_775 ?_
  refine z_callSX (as := [.ref (1), .int (xs (i + 1)), .int (xs (i + 2)), .int (xs (i + 3)), .ref (145)]) (w_island c1) ko_L_island kl_L_128 rfl rfl ⟨by decide, by decide, by show u + 2 ≤ 601024; omega, by show us + 12 ≤ 7293034; omega⟩ (Nat.le_of_ble_eq_true rfl) rfl dL_law_776 ?_
  refine z_istore (by decide) rfl dL_law_779 ?_
  refine z_aload_n rfl rfl dL_law_781 ?_
  refine z_aload_n rfl rfl dL_law_782 ?_
  refine z_iload rfl dL_law_783 ?_
  refine z_iconst (nI 1) (by decide) dL_law_785 ?_
  refine m_addN dL_law_786 ?_
  refine m_sld (i + 1) (by omega) (by omega) dL_law_787 ?_
  refine z_aload_n rfl rfl dL_law_788 ?_
  refine z_iload rfl dL_law_789 ?_
  refine z_iconst (nI 2) (by decide) dL_law_791 ?_
  refine m_addN dL_law_792 ?_
  refine m_sld (i + 2) (by omega) (by omega) dL_law_793 ?_
  refine z_aload_n rfl rfl dL_law_794 ?_
  refine z_iload rfl dL_law_795 ?_
  refine z_iconst (nI 3) (by decide) dL_law_797 ?_
  refine m_addN dL_law_798 ?_
  refine m_sld (i + 3) (by omega) (by omega) dL_law_799 ?_
  refine z_callV (as := [.int (xs (i + 1)), .int (xs (i + 2)), .int (xs (i + 3))]) (c2 _) ko_X8_island kl_L_130 rfl (zl_a rfl rfl) rfl rfl ⟨by decide, by decide, by show u + 2 ≤ 601024; omega, by show us + 12 ≤ 7293034; omega⟩ (Nat.le_of_ble_eq_true rfl) rfl dL_law_800 ?_
  refine z_istore (by decide) rfl dL_law_803 ?_
  refine z_aload_n rfl rfl dL_law_805 ?_
  refine z_callV (as := []) (ct_thr c3) ko_X8_thrown kl_L_99 rfl (zl_a rfl rfl) rfl rfl ⟨by decide, by decide, by show u + 2 ≤ 601024; omega, by show us + 12 ≤ 7293034; omega⟩ (Nat.le_of_ble_eq_true rfl) rfl dL_law_806 ?_
  refine z_iload rfl dL_law_809 ?_
  refine z_icmp_eq 816 (by decide) dL_law_811 (fun _ => ?_) (fun h => absurd h (by decide))
  refine z_iload rfl dL_law_816 ?_
  refine z_if_ne 833 (by decide) dL_law_818 (fun h => absurd h (by decide)) (fun _ => ?_)
  refine z_aload_n rfl rfl dL_law_821 ?_
  refine z_iconst (nI 0) (by decide) dL_law_822 ?_
  refine z_lald (zl_a rfl rfl) (vp_in_nI (by decide) (by decide)) dL_law_823 ?_
  refine z_iload rfl dL_law_824 ?_
  refine z_i2l dL_law_826 ?_
  refine z_lcmp dL_law_827 ?_
  refine m_eqv (w := nI 0) (lg_self _) ?_
  refine z_if_eq 833 (by decide) dL_law_828 (fun _ => ?_) (fun h => absurd h (by decide))
  refine z_goto 1835 (by decide) dL_law_833 ?_
  refine z_fgt [.ref (0), .ref (1), .ref (117), .ref (145), .int (nI i), .null, .null] ⟨Or.inl rfl, ⟨Or.inl rfl, ⟨Or.inl rfl, ⟨Or.inl rfl, ⟨Or.inl rfl, ⟨Or.inr rfl, ⟨Or.inr rfl, trivial⟩⟩⟩⟩⟩⟩⟩ ?_
  exact kk _ _ _ (by show u + 2 ≤ u + 8; omega) (by show us + 12 ≤ us + 40; omega)
set_option maxRecDepth 100000 in
set_option maxHeartbeats 4000000 in
theorem lk_island_I {L i u us : Nat} {xs : Nat → Int32} {μ μ1 μ2 : zMu} {g : Int64} {w : Int32} {o : zO} (hi : i + 6 ≤ L) (hL : L ≤ 3072) (hu : u + 8 ≤ 601024) (hus : us + 40 ≤ 7293034) (c1 : zCt (L, xs) kX7_island [.ref (1), .int (xs (i + 1)), .int (xs (i + 2)), .int (xs (i + 3))] (zm μ g) (.inr xI, zm μ g)) (c2 : ∀ g9, zCt (L, xs) kX8_island [.ref (117), .int (xs (i + 1)), .int (xs (i + 2)), .int (xs (i + 3))] (zm μ g9) (.inl (some (.int w)), zm μ2 g9)) (c3 : μ2 117 0 = nI 1) (kk : ∀ g2 u9 us9, u9 ≤ u + 8 → us9 ≤ us + 40 → zV true (L, xs) kL_law 0 o 1835 [.ref (0), .ref (1), .ref (117), .ref (145), .int (nI i), .null, .null] [] (zm μ2 g2) u9 us9) : zV true (L, xs) kL_law 0 o 756 [.ref (0), .ref (1), .ref (117), .ref (145), .int (nI i), .null, .null] [] (zm μ g) u us := by
  refine z_aload_n rfl rfl dL_law_756 ?_
  refine z_aload_n rfl rfl dL_law_757 ?_
  refine z_iload rfl dL_law_758 ?_
  refine z_iconst (nI 1) (by decide) dL_law_760 ?_
  refine m_addN dL_law_761 ?_
  refine m_sld (i + 1) (by omega) (by omega) dL_law_762 ?_
  refine z_aload_n rfl rfl dL_law_763 ?_
  refine z_iload rfl dL_law_764 ?_
  refine z_iconst (nI 2) (by decide) dL_law_766 ?_
  refine m_addN dL_law_767 ?_
  refine m_sld (i + 2) (by omega) (by omega) dL_law_768 ?_
  refine z_aload_n rfl rfl dL_law_769 ?_
  refine z_iload rfl dL_law_770 ?_
  refine z_iconst (nI 3) (by decide) dL_law_772 ?_
  refine m_addN dL_law_773 ?_
  refine m_sld (i + 3) (by omega) (by omega) dL_law_774 ?_
  refine z_aload_n rfl rfl dL_law_775 ?_
  refine z_callSX (as := [.ref (1), .int (xs (i + 1)), .int (xs (i + 2)), .int (xs (i + 3)), .ref (145)]) (wI_island c1) ko_L_island kl_L_128 rfl rfl ⟨by decide, by decide, by show u + 2 ≤ 601024; omega, by show us + 12 ≤ 7293034; omega⟩ (Nat.le_of_ble_eq_true rfl) rfl dL_law_776 ?_
  refine z_istore (by decide) rfl dL_law_779 ?_
  refine z_aload_n rfl rfl dL_law_781 ?_
  refine z_aload_n rfl rfl dL_law_782 ?_
  refine z_iload rfl dL_law_783 ?_
  refine z_iconst (nI 1) (by decide) dL_law_785 ?_
  refine m_addN dL_law_786 ?_
  refine m_sld (i + 1) (by omega) (by omega) dL_law_787 ?_
  refine z_aload_n rfl rfl dL_law_788 ?_
  refine z_iload rfl dL_law_789 ?_
  refine z_iconst (nI 2) (by decide) dL_law_791 ?_
  refine m_addN dL_law_792 ?_
  refine m_sld (i + 2) (by omega) (by omega) dL_law_793 ?_
  refine z_aload_n rfl rfl dL_law_794 ?_
  refine z_iload rfl dL_law_795 ?_
  refine z_iconst (nI 3) (by decide) dL_law_797 ?_
  refine m_addN dL_law_798 ?_
  refine m_sld (i + 3) (by omega) (by omega) dL_law_799 ?_
  refine z_callV (as := [.int (xs (i + 1)), .int (xs (i + 2)), .int (xs (i + 3))]) (c2 _) ko_X8_island kl_L_130 rfl (zl_a rfl rfl) rfl rfl ⟨by decide, by decide, by show u + 2 ≤ 601024; omega, by show us + 12 ≤ 7293034; omega⟩ (Nat.le_of_ble_eq_true rfl) rfl dL_law_800 ?_
  refine z_istore (by decide) rfl dL_law_803 ?_
  refine z_aload_n rfl rfl dL_law_805 ?_
  refine z_callV (as := []) (ct_thr c3) ko_X8_thrown kl_L_99 rfl (zl_a rfl rfl) rfl rfl ⟨by decide, by decide, by show u + 2 ≤ 601024; omega, by show us + 12 ≤ 7293034; omega⟩ (Nat.le_of_ble_eq_true rfl) rfl dL_law_806 ?_
  refine z_iload rfl dL_law_809 ?_
  refine z_icmp_eq 816 (by decide) dL_law_811 (fun _ => ?_) (fun h => absurd h (by decide))
  refine z_iload rfl dL_law_816 ?_
  refine z_if_ne 833 (by decide) dL_law_818 (fun _ => ?_) (fun h => absurd h (by decide))
  refine z_goto 1835 (by decide) dL_law_833 ?_
  refine z_fgt [.ref (0), .ref (1), .ref (117), .ref (145), .int (nI i), .null, .null] ⟨Or.inl rfl, ⟨Or.inl rfl, ⟨Or.inl rfl, ⟨Or.inl rfl, ⟨Or.inl rfl, ⟨Or.inr rfl, ⟨Or.inr rfl, trivial⟩⟩⟩⟩⟩⟩⟩ ?_
  exact kk _ _ _ (by show u + 2 ≤ u + 8; omega) (by show us + 12 ≤ us + 40; omega)
set_option maxRecDepth 100000 in
set_option maxHeartbeats 4000000 in
theorem lk_island_A {L i u us : Nat} {xs : Nat → Int32} {μ μ1 μ2 : zMu} {g : Int64} {w : Int32} {o : zO} (hi : i + 6 ≤ L) (hL : L ≤ 3072) (hu : u + 8 ≤ 601024) (hus : us + 40 ≤ 7293034) (c1 : zCt (L, xs) kX7_island [.ref (1), .int (xs (i + 1)), .int (xs (i + 2)), .int (xs (i + 3))] (zm μ g) (.inr xA, zm μ g)) (c2 : ∀ g9, zCt (L, xs) kX8_island [.ref (117), .int (xs (i + 1)), .int (xs (i + 2)), .int (xs (i + 3))] (zm μ g9) (.inl (some (.int w)), zm μ2 g9)) (c3 : μ2 117 0 = nI 2) (kk : ∀ g2 u9 us9, u9 ≤ u + 8 → us9 ≤ us + 40 → zV true (L, xs) kL_law 0 o 1835 [.ref (0), .ref (1), .ref (117), .ref (145), .int (nI i), .null, .null] [] (zm μ2 g2) u9 us9) : zV true (L, xs) kL_law 0 o 756 [.ref (0), .ref (1), .ref (117), .ref (145), .int (nI i), .null, .null] [] (zm μ g) u us := by
  refine z_aload_n rfl rfl dL_law_756 ?_
  refine z_aload_n rfl rfl dL_law_757 ?_
  refine z_iload rfl dL_law_758 ?_
  refine z_iconst (nI 1) (by decide) dL_law_760 ?_
  refine m_addN dL_law_761 ?_
  refine m_sld (i + 1) (by omega) (by omega) dL_law_762 ?_
  refine z_aload_n rfl rfl dL_law_763 ?_
  refine z_iload rfl dL_law_764 ?_
  refine z_iconst (nI 2) (by decide) dL_law_766 ?_
  refine m_addN dL_law_767 ?_
  refine m_sld (i + 2) (by omega) (by omega) dL_law_768 ?_
  refine z_aload_n rfl rfl dL_law_769 ?_
  refine z_iload rfl dL_law_770 ?_
  refine z_iconst (nI 3) (by decide) dL_law_772 ?_
  refine m_addN dL_law_773 ?_
  refine m_sld (i + 3) (by omega) (by omega) dL_law_774 ?_
  refine z_aload_n rfl rfl dL_law_775 ?_
  refine z_callSX (as := [.ref (1), .int (xs (i + 1)), .int (xs (i + 2)), .int (xs (i + 3)), .ref (145)]) (wA_island c1) ko_L_island kl_L_128 rfl rfl ⟨by decide, by decide, by show u + 2 ≤ 601024; omega, by show us + 12 ≤ 7293034; omega⟩ (Nat.le_of_ble_eq_true rfl) rfl dL_law_776 ?_
  refine z_istore (by decide) rfl dL_law_779 ?_
  refine z_aload_n rfl rfl dL_law_781 ?_
  refine z_aload_n rfl rfl dL_law_782 ?_
  refine z_iload rfl dL_law_783 ?_
  refine z_iconst (nI 1) (by decide) dL_law_785 ?_
  refine m_addN dL_law_786 ?_
  refine m_sld (i + 1) (by omega) (by omega) dL_law_787 ?_
  refine z_aload_n rfl rfl dL_law_788 ?_
  refine z_iload rfl dL_law_789 ?_
  refine z_iconst (nI 2) (by decide) dL_law_791 ?_
  refine m_addN dL_law_792 ?_
  refine m_sld (i + 2) (by omega) (by omega) dL_law_793 ?_
  refine z_aload_n rfl rfl dL_law_794 ?_
  refine z_iload rfl dL_law_795 ?_
  refine z_iconst (nI 3) (by decide) dL_law_797 ?_
  refine m_addN dL_law_798 ?_
  refine m_sld (i + 3) (by omega) (by omega) dL_law_799 ?_
  refine z_callV (as := [.int (xs (i + 1)), .int (xs (i + 2)), .int (xs (i + 3))]) (c2 _) ko_X8_island kl_L_130 rfl (zl_a rfl rfl) rfl rfl ⟨by decide, by decide, by show u + 2 ≤ 601024; omega, by show us + 12 ≤ 7293034; omega⟩ (Nat.le_of_ble_eq_true rfl) rfl dL_law_800 ?_
  refine z_istore (by decide) rfl dL_law_803 ?_
  refine z_aload_n rfl rfl dL_law_805 ?_
  refine z_callV (as := []) (ct_thr c3) ko_X8_thrown kl_L_99 rfl (zl_a rfl rfl) rfl rfl ⟨by decide, by decide, by show u + 2 ≤ 601024; omega, by show us + 12 ≤ 7293034; omega⟩ (Nat.le_of_ble_eq_true rfl) rfl dL_law_806 ?_
  refine z_iload rfl dL_law_809 ?_
  refine z_icmp_eq 816 (by decide) dL_law_811 (fun _ => ?_) (fun h => absurd h (by decide))
  refine z_iload rfl dL_law_816 ?_
  refine z_if_ne 833 (by decide) dL_law_818 (fun _ => ?_) (fun h => absurd h (by decide))
  refine z_goto 1835 (by decide) dL_law_833 ?_
  refine z_fgt [.ref (0), .ref (1), .ref (117), .ref (145), .int (nI i), .null, .null] ⟨Or.inl rfl, ⟨Or.inl rfl, ⟨Or.inl rfl, ⟨Or.inl rfl, ⟨Or.inl rfl, ⟨Or.inr rfl, ⟨Or.inr rfl, trivial⟩⟩⟩⟩⟩⟩⟩ ?_
  exact kk _ _ _ (by show u + 2 ≤ u + 8; omega) (by show us + 12 ≤ us + 40; omega)
set_option maxRecDepth 100000 in
set_option maxHeartbeats 4000000 in
theorem lk_island_S {L i u us : Nat} {xs : Nat → Int32} {μ μ1 μ2 : zMu} {g : Int64} {w : Int32} {o : zO} (hi : i + 6 ≤ L) (hL : L ≤ 3072) (hu : u + 8 ≤ 601024) (hus : us + 40 ≤ 7293034) (c1 : zCt (L, xs) kX7_island [.ref (1), .int (xs (i + 1)), .int (xs (i + 2)), .int (xs (i + 3))] (zm μ g) (.inr xS, zm μ g)) (c2 : ∀ g9, zCt (L, xs) kX8_island [.ref (117), .int (xs (i + 1)), .int (xs (i + 2)), .int (xs (i + 3))] (zm μ g9) (.inl (some (.int w)), zm μ2 g9)) (c3 : μ2 117 0 = nI 3) (kk : ∀ g2 u9 us9, u9 ≤ u + 8 → us9 ≤ us + 40 → zV true (L, xs) kL_law 0 o 1835 [.ref (0), .ref (1), .ref (117), .ref (145), .int (nI i), .null, .null] [] (zm μ2 g2) u9 us9) : zV true (L, xs) kL_law 0 o 756 [.ref (0), .ref (1), .ref (117), .ref (145), .int (nI i), .null, .null] [] (zm μ g) u us := by
  refine z_aload_n rfl rfl dL_law_756 ?_
  refine z_aload_n rfl rfl dL_law_757 ?_
  refine z_iload rfl dL_law_758 ?_
  refine z_iconst (nI 1) (by decide) dL_law_760 ?_
  refine m_addN dL_law_761 ?_
  refine m_sld (i + 1) (by omega) (by omega) dL_law_762 ?_
  refine z_aload_n rfl rfl dL_law_763 ?_
  refine z_iload rfl dL_law_764 ?_
  refine z_iconst (nI 2) (by decide) dL_law_766 ?_
  refine m_addN dL_law_767 ?_
  refine m_sld (i + 2) (by omega) (by omega) dL_law_768 ?_
  refine z_aload_n rfl rfl dL_law_769 ?_
  refine z_iload rfl dL_law_770 ?_
  refine z_iconst (nI 3) (by decide) dL_law_772 ?_
  refine m_addN dL_law_773 ?_
  refine m_sld (i + 3) (by omega) (by omega) dL_law_774 ?_
  refine z_aload_n rfl rfl dL_law_775 ?_
  refine z_callSX (as := [.ref (1), .int (xs (i + 1)), .int (xs (i + 2)), .int (xs (i + 3)), .ref (145)]) (wS_island c1) ko_L_island kl_L_128 rfl rfl ⟨by decide, by decide, by show u + 2 ≤ 601024; omega, by show us + 12 ≤ 7293034; omega⟩ (Nat.le_of_ble_eq_true rfl) rfl dL_law_776 ?_
  refine z_istore (by decide) rfl dL_law_779 ?_
  refine z_aload_n rfl rfl dL_law_781 ?_
  refine z_aload_n rfl rfl dL_law_782 ?_
  refine z_iload rfl dL_law_783 ?_
  refine z_iconst (nI 1) (by decide) dL_law_785 ?_
  refine m_addN dL_law_786 ?_
  refine m_sld (i + 1) (by omega) (by omega) dL_law_787 ?_
  refine z_aload_n rfl rfl dL_law_788 ?_
  refine z_iload rfl dL_law_789 ?_
  refine z_iconst (nI 2) (by decide) dL_law_791 ?_
  refine m_addN dL_law_792 ?_
  refine m_sld (i + 2) (by omega) (by omega) dL_law_793 ?_
  refine z_aload_n rfl rfl dL_law_794 ?_
  refine z_iload rfl dL_law_795 ?_
  refine z_iconst (nI 3) (by decide) dL_law_797 ?_
  refine m_addN dL_law_798 ?_
  refine m_sld (i + 3) (by omega) (by omega) dL_law_799 ?_
  refine z_callV (as := [.int (xs (i + 1)), .int (xs (i + 2)), .int (xs (i + 3))]) (c2 _) ko_X8_island kl_L_130 rfl (zl_a rfl rfl) rfl rfl ⟨by decide, by decide, by show u + 2 ≤ 601024; omega, by show us + 12 ≤ 7293034; omega⟩ (Nat.le_of_ble_eq_true rfl) rfl dL_law_800 ?_
  refine z_istore (by decide) rfl dL_law_803 ?_
  refine z_aload_n rfl rfl dL_law_805 ?_
  refine z_callV (as := []) (ct_thr c3) ko_X8_thrown kl_L_99 rfl (zl_a rfl rfl) rfl rfl ⟨by decide, by decide, by show u + 2 ≤ 601024; omega, by show us + 12 ≤ 7293034; omega⟩ (Nat.le_of_ble_eq_true rfl) rfl dL_law_806 ?_
  refine z_iload rfl dL_law_809 ?_
  refine z_icmp_eq 816 (by decide) dL_law_811 (fun _ => ?_) (fun h => absurd h (by decide))
  refine z_iload rfl dL_law_816 ?_
  refine z_if_ne 833 (by decide) dL_law_818 (fun _ => ?_) (fun h => absurd h (by decide))
  refine z_goto 1835 (by decide) dL_law_833 ?_
  refine z_fgt [.ref (0), .ref (1), .ref (117), .ref (145), .int (nI i), .null, .null] ⟨Or.inl rfl, ⟨Or.inl rfl, ⟨Or.inl rfl, ⟨Or.inl rfl, ⟨Or.inl rfl, ⟨Or.inr rfl, ⟨Or.inr rfl, trivial⟩⟩⟩⟩⟩⟩⟩ ?_
  exact kk _ _ _ (by show u + 2 ≤ u + 8; omega) (by show us + 12 ≤ us + 40; omega)
set_option maxRecDepth 100000 in
set_option maxHeartbeats 4000000 in
theorem lk_exchange_ok {L i u us : Nat} {xs : Nat → Int32} {μ μ1 μ2 : zMu} {g : Int64} {o : zO} (hi : i + 6 ≤ L) (hL : L ≤ 3072) (hu : u + 8 ≤ 601024) (hus : us + 40 ≤ 7293034) (c1 : zCt (L, xs) kX7_exchange [.ref (1), .int (xs (i + 1)), .int (xs (i + 2)), .int (xs (i + 3))] (zm μ g) (.inl (none), zm μ1 g)) (c2 : ∀ g9, zCt (L, xs) kX8_exchange [.ref (117), .int (xs (i + 1)), .int (xs (i + 2)), .int (xs (i + 3))] (zm μ1 g9) (.inl (none), zm μ2 g9)) (c3 : μ2 117 0 = nI 0) (kk : ∀ g2 u9 us9, u9 ≤ u + 8 → us9 ≤ us + 40 → zV true (L, xs) kL_law 0 o 1835 [.ref (0), .ref (1), .ref (117), .ref (145), .int (nI i), .null, .null] [] (zm μ2 g2) u9 us9) : zV true (L, xs) kL_law 0 o 836 [.ref (0), .ref (1), .ref (117), .ref (145), .int (nI i), .null, .null] [] (zm μ g) u us := by
  refine z_aload_n rfl rfl dL_law_836 ?_
  refine z_aload_n rfl rfl dL_law_837 ?_
  refine z_iload rfl dL_law_838 ?_
  refine z_iconst (nI 1) (by decide) dL_law_840 ?_
  refine m_addN dL_law_841 ?_
  refine m_sld (i + 1) (by omega) (by omega) dL_law_842 ?_
  refine z_aload_n rfl rfl dL_law_843 ?_
  refine z_iload rfl dL_law_844 ?_
  refine z_iconst (nI 2) (by decide) dL_law_846 ?_
  refine m_addN dL_law_847 ?_
  refine m_sld (i + 2) (by omega) (by omega) dL_law_848 ?_
  refine z_aload_n rfl rfl dL_law_849 ?_
  refine z_iload rfl dL_law_850 ?_
  refine z_iconst (nI 3) (by decide) dL_law_852 ?_
  refine m_addN dL_law_853 ?_
  refine m_sld (i + 3) (by omega) (by omega) dL_law_854 ?_
  refine z_callSX (as := [.ref (1), .int (xs (i + 1)), .int (xs (i + 2)), .int (xs (i + 3))]) (w_exchange c1) ko_L_exchange kl_L_131 rfl rfl ⟨by decide, by decide, by show u + 3 ≤ 601024; omega, by show us + 18 ≤ 7293034; omega⟩ (Nat.le_of_ble_eq_true rfl) rfl dL_law_855 ?_
  refine z_istore (by decide) rfl dL_law_858 ?_
  refine z_aload_n rfl rfl dL_law_860 ?_
  refine z_aload_n rfl rfl dL_law_861 ?_
  refine z_iload rfl dL_law_862 ?_
  refine z_iconst (nI 1) (by decide) dL_law_864 ?_
  refine m_addN dL_law_865 ?_
  refine m_sld (i + 1) (by omega) (by omega) dL_law_866 ?_
  refine z_aload_n rfl rfl dL_law_867 ?_
  refine z_iload rfl dL_law_868 ?_
  refine z_iconst (nI 2) (by decide) dL_law_870 ?_
  refine m_addN dL_law_871 ?_
  refine m_sld (i + 2) (by omega) (by omega) dL_law_872 ?_
  refine z_aload_n rfl rfl dL_law_873 ?_
  refine z_iload rfl dL_law_874 ?_
  refine z_iconst (nI 3) (by decide) dL_law_876 ?_
  refine m_addN dL_law_877 ?_
  refine m_sld (i + 3) (by omega) (by omega) dL_law_878 ?_
  refine z_callV (as := [.int (xs (i + 1)), .int (xs (i + 2)), .int (xs (i + 3))]) (c2 _) ko_X8_exchange kl_L_133 rfl (zl_a rfl rfl) rfl rfl ⟨by decide, by decide, by show u + 3 ≤ 601024; omega, by show us + 18 ≤ 7293034; omega⟩ (Nat.le_of_ble_eq_true rfl) rfl dL_law_879 ?_
  refine z_aload_n rfl rfl dL_law_882 ?_
  refine z_callV (as := []) (ct_thr c3) ko_X8_thrown kl_L_99 rfl (zl_a rfl rfl) rfl rfl ⟨by decide, by decide, by show u + 3 ≤ 601024; omega, by show us + 18 ≤ 7293034; omega⟩ (Nat.le_of_ble_eq_true rfl) rfl dL_law_883 ?_
  refine z_iload rfl dL_law_886 ?_
  refine z_icmp_eq 893 (by decide) dL_law_888 (fun _ => ?_) (fun h => absurd h (by decide))
  refine z_goto 1835 (by decide) dL_law_893 ?_
  refine z_fgt [.ref (0), .ref (1), .ref (117), .ref (145), .int (nI i), .null, .null] ⟨Or.inl rfl, ⟨Or.inl rfl, ⟨Or.inl rfl, ⟨Or.inl rfl, ⟨Or.inl rfl, ⟨Or.inr rfl, ⟨Or.inl rfl, trivial⟩⟩⟩⟩⟩⟩⟩ ?_
  exact kk _ _ _ (by show u + 3 ≤ u + 8; omega) (by show us + 18 ≤ us + 40; omega)
set_option maxRecDepth 100000 in
set_option maxHeartbeats 4000000 in
theorem lk_exchange_I {L i u us : Nat} {xs : Nat → Int32} {μ μ1 μ2 : zMu} {g : Int64} {o : zO} (hi : i + 6 ≤ L) (hL : L ≤ 3072) (hu : u + 8 ≤ 601024) (hus : us + 40 ≤ 7293034) (c1 : zCt (L, xs) kX7_exchange [.ref (1), .int (xs (i + 1)), .int (xs (i + 2)), .int (xs (i + 3))] (zm μ g) (.inr xI, zm μ g)) (c2 : ∀ g9, zCt (L, xs) kX8_exchange [.ref (117), .int (xs (i + 1)), .int (xs (i + 2)), .int (xs (i + 3))] (zm μ g9) (.inl (none), zm μ2 g9)) (c3 : μ2 117 0 = nI 1) (kk : ∀ g2 u9 us9, u9 ≤ u + 8 → us9 ≤ us + 40 → zV true (L, xs) kL_law 0 o 1835 [.ref (0), .ref (1), .ref (117), .ref (145), .int (nI i), .null, .null] [] (zm μ2 g2) u9 us9) : zV true (L, xs) kL_law 0 o 836 [.ref (0), .ref (1), .ref (117), .ref (145), .int (nI i), .null, .null] [] (zm μ g) u us := by
  refine z_aload_n rfl rfl dL_law_836 ?_
  refine z_aload_n rfl rfl dL_law_837 ?_
  refine z_iload rfl dL_law_838 ?_
  refine z_iconst (nI 1) (by decide) dL_law_840 ?_
  refine m_addN dL_law_841 ?_
  refine m_sld (i + 1) (by omega) (by omega) dL_law_842 ?_
  refine z_aload_n rfl rfl dL_law_843 ?_
  refine z_iload rfl dL_law_844 ?_
  refine z_iconst (nI 2) (by decide) dL_law_846 ?_
  refine m_addN dL_law_847 ?_
  refine m_sld (i + 2) (by omega) (by omega) dL_law_848 ?_
  refine z_aload_n rfl rfl dL_law_849 ?_
  refine z_iload rfl dL_law_850 ?_
  refine z_iconst (nI 3) (by decide) dL_law_852 ?_
  refine m_addN dL_law_853 ?_
  refine m_sld (i + 3) (by omega) (by omega) dL_law_854 ?_
  refine z_callSX (as := [.ref (1), .int (xs (i + 1)), .int (xs (i + 2)), .int (xs (i + 3))]) (wI_exchange c1) ko_L_exchange kl_L_131 rfl rfl ⟨by decide, by decide, by show u + 3 ≤ 601024; omega, by show us + 18 ≤ 7293034; omega⟩ (Nat.le_of_ble_eq_true rfl) rfl dL_law_855 ?_
  refine z_istore (by decide) rfl dL_law_858 ?_
  refine z_aload_n rfl rfl dL_law_860 ?_
  refine z_aload_n rfl rfl dL_law_861 ?_
  refine z_iload rfl dL_law_862 ?_
  refine z_iconst (nI 1) (by decide) dL_law_864 ?_
  refine m_addN dL_law_865 ?_
  refine m_sld (i + 1) (by omega) (by omega) dL_law_866 ?_
  refine z_aload_n rfl rfl dL_law_867 ?_
  refine z_iload rfl dL_law_868 ?_
  refine z_iconst (nI 2) (by decide) dL_law_870 ?_
  refine m_addN dL_law_871 ?_
  refine m_sld (i + 2) (by omega) (by omega) dL_law_872 ?_
  refine z_aload_n rfl rfl dL_law_873 ?_
  refine z_iload rfl dL_law_874 ?_
  refine z_iconst (nI 3) (by decide) dL_law_876 ?_
  refine m_addN dL_law_877 ?_
  refine m_sld (i + 3) (by omega) (by omega) dL_law_878 ?_
  refine z_callV (as := [.int (xs (i + 1)), .int (xs (i + 2)), .int (xs (i + 3))]) (c2 _) ko_X8_exchange kl_L_133 rfl (zl_a rfl rfl) rfl rfl ⟨by decide, by decide, by show u + 3 ≤ 601024; omega, by show us + 18 ≤ 7293034; omega⟩ (Nat.le_of_ble_eq_true rfl) rfl dL_law_879 ?_
  refine z_aload_n rfl rfl dL_law_882 ?_
  refine z_callV (as := []) (ct_thr c3) ko_X8_thrown kl_L_99 rfl (zl_a rfl rfl) rfl rfl ⟨by decide, by decide, by show u + 3 ≤ 601024; omega, by show us + 18 ≤ 7293034; omega⟩ (Nat.le_of_ble_eq_true rfl) rfl dL_law_883 ?_
  refine z_iload rfl dL_law_886 ?_
  refine z_icmp_eq 893 (by decide) dL_law_888 (fun _ => ?_) (fun h => absurd h (by decide))
  refine z_goto 1835 (by decide) dL_law_893 ?_
  refine z_fgt [.ref (0), .ref (1), .ref (117), .ref (145), .int (nI i), .null, .null] ⟨Or.inl rfl, ⟨Or.inl rfl, ⟨Or.inl rfl, ⟨Or.inl rfl, ⟨Or.inl rfl, ⟨Or.inr rfl, ⟨Or.inl rfl, trivial⟩⟩⟩⟩⟩⟩⟩ ?_
  exact kk _ _ _ (by show u + 3 ≤ u + 8; omega) (by show us + 18 ≤ us + 40; omega)
set_option maxRecDepth 100000 in
set_option maxHeartbeats 4000000 in
theorem lk_shrink1_ok {L i u us : Nat} {xs : Nat → Int32} {μ μ1 μ2 : zMu} {g : Int64} {v : Int32} {o : zO} (hi : i + 6 ≤ L) (hL : L ≤ 3072) (hu : u + 8 ≤ 601024) (hus : us + 40 ≤ 7293034) (hb : ¬ xs (i + 4) = 0) (c1 : zCt (L, xs) kX7_shrink [.ref (1), .int (xs (i + 1)), .int (xs (i + 2)), .int (xs (i + 3)), .int (nI 1)] (zm μ g) (.inl (some (.int v)), zm μ1 g)) (c2 : ∀ g9, zCt (L, xs) kX8_shrink [.ref (117), .int (xs (i + 1)), .int (xs (i + 2)), .int (xs (i + 3)), .int (nI 1)] (zm μ1 g9) (.inl (some (.int v)), zm μ2 g9)) (c3 : μ2 117 0 = nI 0) (kk : ∀ g2 u9 us9, u9 ≤ u + 8 → us9 ≤ us + 40 → zV true (L, xs) kL_law 0 o 1835 [.ref (0), .ref (1), .ref (117), .ref (145), .int (nI i), .null, .null] [] (zm μ2 g2) u9 us9) : zV true (L, xs) kL_law 0 o 896 [.ref (0), .ref (1), .ref (117), .ref (145), .int (nI i), .null, .null] [] (zm μ g) u us := by
  refine z_aload_n rfl rfl dL_law_896 ?_
  refine z_aload_n rfl rfl dL_law_897 ?_
  refine z_iload rfl dL_law_898 ?_
  refine z_iconst (nI 1) (by decide) dL_law_900 ?_
  refine m_addN dL_law_901 ?_
  refine m_sld (i + 1) (by omega) (by omega) dL_law_902 ?_
  refine z_aload_n rfl rfl dL_law_903 ?_
  refine z_iload rfl dL_law_904 ?_
  refine z_iconst (nI 2) (by decide) dL_law_906 ?_
  refine m_addN dL_law_907 ?_
  refine m_sld (i + 2) (by omega) (by omega) dL_law_908 ?_
  refine z_aload_n rfl rfl dL_law_909 ?_
  refine z_iload rfl dL_law_910 ?_
  refine z_iconst (nI 3) (by decide) dL_law_912 ?_
  refine m_addN dL_law_913 ?_
  refine m_sld (i + 3) (by omega) (by omega) dL_law_914 ?_
  refine z_aload_n rfl rfl dL_law_915 ?_
  refine z_iload rfl dL_law_916 ?_
  refine z_iconst (nI 4) (by decide) dL_law_918 ?_
  refine m_addN dL_law_919 ?_
  refine m_sld (i + 4) (by omega) (by omega) dL_law_920 ?_
  refine z_if_eq 928 (by decide) dL_law_921 (fun h1 => ?_) (fun h2 => ?_)
  · exact absurd h1 hb
  · refine z_iconst (nI 1) (by decide) dL_law_924 ?_
    refine z_goto 929 (by decide) dL_law_925 ?_
    refine z_aload_n rfl rfl dL_law_929 ?_
    refine z_callSX (as := [.ref (1), .int (xs (i + 1)), .int (xs (i + 2)), .int (xs (i + 3)), .int (nI 1), .ref (145)]) (w_shrink c1) ko_L_shrink kl_L_134 rfl rfl ⟨by decide, by decide, by show u + 3 ≤ 601024; omega, by show us + 18 ≤ 7293034; omega⟩ (Nat.le_of_ble_eq_true rfl) rfl dL_law_930 ?_
    refine z_istore (by decide) rfl dL_law_933 ?_
    refine z_aload_n rfl rfl dL_law_935 ?_
    refine z_aload_n rfl rfl dL_law_936 ?_
    refine z_iload rfl dL_law_937 ?_
    refine z_iconst (nI 1) (by decide) dL_law_939 ?_
    refine m_addN dL_law_940 ?_
    refine m_sld (i + 1) (by omega) (by omega) dL_law_941 ?_
    refine z_aload_n rfl rfl dL_law_942 ?_
    refine z_iload rfl dL_law_943 ?_
    refine z_iconst (nI 2) (by decide) dL_law_945 ?_
    refine m_addN dL_law_946 ?_
    refine m_sld (i + 2) (by omega) (by omega) dL_law_947 ?_
    refine z_aload_n rfl rfl dL_law_948 ?_
    refine z_iload rfl dL_law_949 ?_
    refine z_iconst (nI 3) (by decide) dL_law_951 ?_
    refine m_addN dL_law_952 ?_
    refine m_sld (i + 3) (by omega) (by omega) dL_law_953 ?_
    refine z_aload_n rfl rfl dL_law_954 ?_
    refine z_iload rfl dL_law_955 ?_
    refine z_iconst (nI 4) (by decide) dL_law_957 ?_
    refine m_addN dL_law_958 ?_
    refine m_sld (i + 4) (by omega) (by omega) dL_law_959 ?_
    refine z_if_eq 967 (by decide) dL_law_960 (fun h3 => ?_) (fun h4 => ?_)
    · exact absurd h3 hb
    · refine z_iconst (nI 1) (by decide) dL_law_963 ?_
      refine z_goto 968 (by decide) dL_law_964 ?_
      refine z_callV (as := [.int (xs (i + 1)), .int (xs (i + 2)), .int (xs (i + 3)), .int (nI 1)]) (c2 _) ko_X8_shrink kl_L_137 rfl (zl_a rfl rfl) rfl rfl ⟨by decide, by decide, by show u + 3 ≤ 601024; omega, by show us + 18 ≤ 7293034; omega⟩ (Nat.le_of_ble_eq_true rfl) rfl dL_law_968 ?_
      refine z_istore (by decide) rfl dL_law_971 ?_
      refine z_aload_n rfl rfl dL_law_973 ?_
      refine z_callV (as := []) (ct_thr c3) ko_X8_thrown kl_L_99 rfl (zl_a rfl rfl) rfl rfl ⟨by decide, by decide, by show u + 3 ≤ 601024; omega, by show us + 18 ≤ 7293034; omega⟩ (Nat.le_of_ble_eq_true rfl) rfl dL_law_974 ?_
      refine z_iload rfl dL_law_977 ?_
      refine z_icmp_eq 984 (by decide) dL_law_979 (fun _ => ?_) (fun h => absurd h (by decide))
      refine z_iload rfl dL_law_984 ?_
      refine z_if_ne 1001 (by decide) dL_law_986 (fun h => absurd h (by decide)) (fun _ => ?_)
      refine z_aload_n rfl rfl dL_law_989 ?_
      refine z_iconst (nI 0) (by decide) dL_law_990 ?_
      refine z_lald (zl_a rfl rfl) (vp_in_nI (by decide) (by decide)) dL_law_991 ?_
      refine z_iload rfl dL_law_992 ?_
      refine z_i2l dL_law_994 ?_
      refine z_lcmp dL_law_995 ?_
      refine m_eqv (w := nI 0) (lg_self _) ?_
      refine z_if_eq 1001 (by decide) dL_law_996 (fun _ => ?_) (fun h => absurd h (by decide))
      refine z_goto 1835 (by decide) dL_law_1001 ?_
      refine z_fgt [.ref (0), .ref (1), .ref (117), .ref (145), .int (nI i), .null, .null] ⟨Or.inl rfl, ⟨Or.inl rfl, ⟨Or.inl rfl, ⟨Or.inl rfl, ⟨Or.inl rfl, ⟨Or.inr rfl, ⟨Or.inr rfl, trivial⟩⟩⟩⟩⟩⟩⟩ ?_
      exact kk _ _ _ (by show u + 3 ≤ u + 8; omega) (by show us + 18 ≤ us + 40; omega)
set_option maxRecDepth 100000 in
set_option maxHeartbeats 4000000 in
theorem lk_shrink1_I {L i u us : Nat} {xs : Nat → Int32} {μ μ1 μ2 : zMu} {g : Int64} {w : Int32} {o : zO} (hi : i + 6 ≤ L) (hL : L ≤ 3072) (hu : u + 8 ≤ 601024) (hus : us + 40 ≤ 7293034) (hb : ¬ xs (i + 4) = 0) (c1 : zCt (L, xs) kX7_shrink [.ref (1), .int (xs (i + 1)), .int (xs (i + 2)), .int (xs (i + 3)), .int (nI 1)] (zm μ g) (.inr xI, zm μ g)) (c2 : ∀ g9, zCt (L, xs) kX8_shrink [.ref (117), .int (xs (i + 1)), .int (xs (i + 2)), .int (xs (i + 3)), .int (nI 1)] (zm μ g9) (.inl (some (.int w)), zm μ2 g9)) (c3 : μ2 117 0 = nI 1) (kk : ∀ g2 u9 us9, u9 ≤ u + 8 → us9 ≤ us + 40 → zV true (L, xs) kL_law 0 o 1835 [.ref (0), .ref (1), .ref (117), .ref (145), .int (nI i), .null, .null] [] (zm μ2 g2) u9 us9) : zV true (L, xs) kL_law 0 o 896 [.ref (0), .ref (1), .ref (117), .ref (145), .int (nI i), .null, .null] [] (zm μ g) u us := by
  refine z_aload_n rfl rfl dL_law_896 ?_
  refine z_aload_n rfl rfl dL_law_897 ?_
  refine z_iload rfl dL_law_898 ?_
  refine z_iconst (nI 1) (by decide) dL_law_900 ?_
  refine m_addN dL_law_901 ?_
  refine m_sld (i + 1) (by omega) (by omega) dL_law_902 ?_
  refine z_aload_n rfl rfl dL_law_903 ?_
  refine z_iload rfl dL_law_904 ?_
  refine z_iconst (nI 2) (by decide) dL_law_906 ?_
  refine m_addN dL_law_907 ?_
  refine m_sld (i + 2) (by omega) (by omega) dL_law_908 ?_
  refine z_aload_n rfl rfl dL_law_909 ?_
  refine z_iload rfl dL_law_910 ?_
  refine z_iconst (nI 3) (by decide) dL_law_912 ?_
  refine m_addN dL_law_913 ?_
  refine m_sld (i + 3) (by omega) (by omega) dL_law_914 ?_
  refine z_aload_n rfl rfl dL_law_915 ?_
  refine z_iload rfl dL_law_916 ?_
  refine z_iconst (nI 4) (by decide) dL_law_918 ?_
  refine m_addN dL_law_919 ?_
  refine m_sld (i + 4) (by omega) (by omega) dL_law_920 ?_
  refine z_if_eq 928 (by decide) dL_law_921 (fun h1 => ?_) (fun h2 => ?_)
  · exact absurd h1 hb
  · refine z_iconst (nI 1) (by decide) dL_law_924 ?_
    refine z_goto 929 (by decide) dL_law_925 ?_
    refine z_aload_n rfl rfl dL_law_929 ?_
    refine z_callSX (as := [.ref (1), .int (xs (i + 1)), .int (xs (i + 2)), .int (xs (i + 3)), .int (nI 1), .ref (145)]) (wI_shrink c1) ko_L_shrink kl_L_134 rfl rfl ⟨by decide, by decide, by show u + 3 ≤ 601024; omega, by show us + 18 ≤ 7293034; omega⟩ (Nat.le_of_ble_eq_true rfl) rfl dL_law_930 ?_
    refine z_istore (by decide) rfl dL_law_933 ?_
    refine z_aload_n rfl rfl dL_law_935 ?_
    refine z_aload_n rfl rfl dL_law_936 ?_
    refine z_iload rfl dL_law_937 ?_
    refine z_iconst (nI 1) (by decide) dL_law_939 ?_
    refine m_addN dL_law_940 ?_
    refine m_sld (i + 1) (by omega) (by omega) dL_law_941 ?_
    refine z_aload_n rfl rfl dL_law_942 ?_
    refine z_iload rfl dL_law_943 ?_
    refine z_iconst (nI 2) (by decide) dL_law_945 ?_
    refine m_addN dL_law_946 ?_
    refine m_sld (i + 2) (by omega) (by omega) dL_law_947 ?_
    refine z_aload_n rfl rfl dL_law_948 ?_
    refine z_iload rfl dL_law_949 ?_
    refine z_iconst (nI 3) (by decide) dL_law_951 ?_
    refine m_addN dL_law_952 ?_
    refine m_sld (i + 3) (by omega) (by omega) dL_law_953 ?_
    refine z_aload_n rfl rfl dL_law_954 ?_
    refine z_iload rfl dL_law_955 ?_
    refine z_iconst (nI 4) (by decide) dL_law_957 ?_
    refine m_addN dL_law_958 ?_
    refine m_sld (i + 4) (by omega) (by omega) dL_law_959 ?_
    refine z_if_eq 967 (by decide) dL_law_960 (fun h3 => ?_) (fun h4 => ?_)
    · exact absurd h3 hb
    · refine z_iconst (nI 1) (by decide) dL_law_963 ?_
      refine z_goto 968 (by decide) dL_law_964 ?_
      refine z_callV (as := [.int (xs (i + 1)), .int (xs (i + 2)), .int (xs (i + 3)), .int (nI 1)]) (c2 _) ko_X8_shrink kl_L_137 rfl (zl_a rfl rfl) rfl rfl ⟨by decide, by decide, by show u + 3 ≤ 601024; omega, by show us + 18 ≤ 7293034; omega⟩ (Nat.le_of_ble_eq_true rfl) rfl dL_law_968 ?_
      refine z_istore (by decide) rfl dL_law_971 ?_
      refine z_aload_n rfl rfl dL_law_973 ?_
      refine z_callV (as := []) (ct_thr c3) ko_X8_thrown kl_L_99 rfl (zl_a rfl rfl) rfl rfl ⟨by decide, by decide, by show u + 3 ≤ 601024; omega, by show us + 18 ≤ 7293034; omega⟩ (Nat.le_of_ble_eq_true rfl) rfl dL_law_974 ?_
      refine z_iload rfl dL_law_977 ?_
      refine z_icmp_eq 984 (by decide) dL_law_979 (fun _ => ?_) (fun h => absurd h (by decide))
      refine z_iload rfl dL_law_984 ?_
      refine z_if_ne 1001 (by decide) dL_law_986 (fun _ => ?_) (fun h => absurd h (by decide))
      refine z_goto 1835 (by decide) dL_law_1001 ?_
      refine z_fgt [.ref (0), .ref (1), .ref (117), .ref (145), .int (nI i), .null, .null] ⟨Or.inl rfl, ⟨Or.inl rfl, ⟨Or.inl rfl, ⟨Or.inl rfl, ⟨Or.inl rfl, ⟨Or.inr rfl, ⟨Or.inr rfl, trivial⟩⟩⟩⟩⟩⟩⟩ ?_
      exact kk _ _ _ (by show u + 3 ≤ u + 8; omega) (by show us + 18 ≤ us + 40; omega)
set_option maxRecDepth 100000 in
set_option maxHeartbeats 4000000 in
theorem lk_shrink1_A {L i u us : Nat} {xs : Nat → Int32} {μ μ1 μ2 : zMu} {g : Int64} {w : Int32} {o : zO} (hi : i + 6 ≤ L) (hL : L ≤ 3072) (hu : u + 8 ≤ 601024) (hus : us + 40 ≤ 7293034) (hb : ¬ xs (i + 4) = 0) (c1 : zCt (L, xs) kX7_shrink [.ref (1), .int (xs (i + 1)), .int (xs (i + 2)), .int (xs (i + 3)), .int (nI 1)] (zm μ g) (.inr xA, zm μ g)) (c2 : ∀ g9, zCt (L, xs) kX8_shrink [.ref (117), .int (xs (i + 1)), .int (xs (i + 2)), .int (xs (i + 3)), .int (nI 1)] (zm μ g9) (.inl (some (.int w)), zm μ2 g9)) (c3 : μ2 117 0 = nI 2) (kk : ∀ g2 u9 us9, u9 ≤ u + 8 → us9 ≤ us + 40 → zV true (L, xs) kL_law 0 o 1835 [.ref (0), .ref (1), .ref (117), .ref (145), .int (nI i), .null, .null] [] (zm μ2 g2) u9 us9) : zV true (L, xs) kL_law 0 o 896 [.ref (0), .ref (1), .ref (117), .ref (145), .int (nI i), .null, .null] [] (zm μ g) u us := by
  refine z_aload_n rfl rfl dL_law_896 ?_
  refine z_aload_n rfl rfl dL_law_897 ?_
  refine z_iload rfl dL_law_898 ?_
  refine z_iconst (nI 1) (by decide) dL_law_900 ?_
  refine m_addN dL_law_901 ?_
  refine m_sld (i + 1) (by omega) (by omega) dL_law_902 ?_
  refine z_aload_n rfl rfl dL_law_903 ?_
  refine z_iload rfl dL_law_904 ?_
  refine z_iconst (nI 2) (by decide) dL_law_906 ?_
  refine m_addN dL_law_907 ?_
  refine m_sld (i + 2) (by omega) (by omega) dL_law_908 ?_
  refine z_aload_n rfl rfl dL_law_909 ?_
  refine z_iload rfl dL_law_910 ?_
  refine z_iconst (nI 3) (by decide) dL_law_912 ?_
  refine m_addN dL_law_913 ?_
  refine m_sld (i + 3) (by omega) (by omega) dL_law_914 ?_
  refine z_aload_n rfl rfl dL_law_915 ?_
  refine z_iload rfl dL_law_916 ?_
  refine z_iconst (nI 4) (by decide) dL_law_918 ?_
  refine m_addN dL_law_919 ?_
  refine m_sld (i + 4) (by omega) (by omega) dL_law_920 ?_
  refine z_if_eq 928 (by decide) dL_law_921 (fun h1 => ?_) (fun h2 => ?_)
  · exact absurd h1 hb
  · refine z_iconst (nI 1) (by decide) dL_law_924 ?_
    refine z_goto 929 (by decide) dL_law_925 ?_
    refine z_aload_n rfl rfl dL_law_929 ?_
    refine z_callSX (as := [.ref (1), .int (xs (i + 1)), .int (xs (i + 2)), .int (xs (i + 3)), .int (nI 1), .ref (145)]) (wA_shrink c1) ko_L_shrink kl_L_134 rfl rfl ⟨by decide, by decide, by show u + 3 ≤ 601024; omega, by show us + 18 ≤ 7293034; omega⟩ (Nat.le_of_ble_eq_true rfl) rfl dL_law_930 ?_
    refine z_istore (by decide) rfl dL_law_933 ?_
    refine z_aload_n rfl rfl dL_law_935 ?_
    refine z_aload_n rfl rfl dL_law_936 ?_
    refine z_iload rfl dL_law_937 ?_
    refine z_iconst (nI 1) (by decide) dL_law_939 ?_
    refine m_addN dL_law_940 ?_
    refine m_sld (i + 1) (by omega) (by omega) dL_law_941 ?_
    refine z_aload_n rfl rfl dL_law_942 ?_
    refine z_iload rfl dL_law_943 ?_
    refine z_iconst (nI 2) (by decide) dL_law_945 ?_
    refine m_addN dL_law_946 ?_
    refine m_sld (i + 2) (by omega) (by omega) dL_law_947 ?_
    refine z_aload_n rfl rfl dL_law_948 ?_
    refine z_iload rfl dL_law_949 ?_
    refine z_iconst (nI 3) (by decide) dL_law_951 ?_
    refine m_addN dL_law_952 ?_
    refine m_sld (i + 3) (by omega) (by omega) dL_law_953 ?_
    refine z_aload_n rfl rfl dL_law_954 ?_
    refine z_iload rfl dL_law_955 ?_
    refine z_iconst (nI 4) (by decide) dL_law_957 ?_
    refine m_addN dL_law_958 ?_
    refine m_sld (i + 4) (by omega) (by omega) dL_law_959 ?_
    refine z_if_eq 967 (by decide) dL_law_960 (fun h3 => ?_) (fun h4 => ?_)
    · exact absurd h3 hb
    · refine z_iconst (nI 1) (by decide) dL_law_963 ?_
      refine z_goto 968 (by decide) dL_law_964 ?_
      refine z_callV (as := [.int (xs (i + 1)), .int (xs (i + 2)), .int (xs (i + 3)), .int (nI 1)]) (c2 _) ko_X8_shrink kl_L_137 rfl (zl_a rfl rfl) rfl rfl ⟨by decide, by decide, by show u + 3 ≤ 601024; omega, by show us + 18 ≤ 7293034; omega⟩ (Nat.le_of_ble_eq_true rfl) rfl dL_law_968 ?_
      refine z_istore (by decide) rfl dL_law_971 ?_
      refine z_aload_n rfl rfl dL_law_973 ?_
      refine z_callV (as := []) (ct_thr c3) ko_X8_thrown kl_L_99 rfl (zl_a rfl rfl) rfl rfl ⟨by decide, by decide, by show u + 3 ≤ 601024; omega, by show us + 18 ≤ 7293034; omega⟩ (Nat.le_of_ble_eq_true rfl) rfl dL_law_974 ?_
      refine z_iload rfl dL_law_977 ?_
      refine z_icmp_eq 984 (by decide) dL_law_979 (fun _ => ?_) (fun h => absurd h (by decide))
      refine z_iload rfl dL_law_984 ?_
      refine z_if_ne 1001 (by decide) dL_law_986 (fun _ => ?_) (fun h => absurd h (by decide))
      refine z_goto 1835 (by decide) dL_law_1001 ?_
      refine z_fgt [.ref (0), .ref (1), .ref (117), .ref (145), .int (nI i), .null, .null] ⟨Or.inl rfl, ⟨Or.inl rfl, ⟨Or.inl rfl, ⟨Or.inl rfl, ⟨Or.inl rfl, ⟨Or.inr rfl, ⟨Or.inr rfl, trivial⟩⟩⟩⟩⟩⟩⟩ ?_
      exact kk _ _ _ (by show u + 3 ≤ u + 8; omega) (by show us + 18 ≤ us + 40; omega)
set_option maxRecDepth 100000 in
set_option maxHeartbeats 4000000 in
theorem lk_shrink1_S {L i u us : Nat} {xs : Nat → Int32} {μ μ1 μ2 : zMu} {g : Int64} {w : Int32} {o : zO} (hi : i + 6 ≤ L) (hL : L ≤ 3072) (hu : u + 8 ≤ 601024) (hus : us + 40 ≤ 7293034) (hb : ¬ xs (i + 4) = 0) (c1 : zCt (L, xs) kX7_shrink [.ref (1), .int (xs (i + 1)), .int (xs (i + 2)), .int (xs (i + 3)), .int (nI 1)] (zm μ g) (.inr xS, zm μ g)) (c2 : ∀ g9, zCt (L, xs) kX8_shrink [.ref (117), .int (xs (i + 1)), .int (xs (i + 2)), .int (xs (i + 3)), .int (nI 1)] (zm μ g9) (.inl (some (.int w)), zm μ2 g9)) (c3 : μ2 117 0 = nI 3) (kk : ∀ g2 u9 us9, u9 ≤ u + 8 → us9 ≤ us + 40 → zV true (L, xs) kL_law 0 o 1835 [.ref (0), .ref (1), .ref (117), .ref (145), .int (nI i), .null, .null] [] (zm μ2 g2) u9 us9) : zV true (L, xs) kL_law 0 o 896 [.ref (0), .ref (1), .ref (117), .ref (145), .int (nI i), .null, .null] [] (zm μ g) u us := by
  refine z_aload_n rfl rfl dL_law_896 ?_
  refine z_aload_n rfl rfl dL_law_897 ?_
  refine z_iload rfl dL_law_898 ?_
  refine z_iconst (nI 1) (by decide) dL_law_900 ?_
  refine m_addN dL_law_901 ?_
  refine m_sld (i + 1) (by omega) (by omega) dL_law_902 ?_
  refine z_aload_n rfl rfl dL_law_903 ?_
  refine z_iload rfl dL_law_904 ?_
  refine z_iconst (nI 2) (by decide) dL_law_906 ?_
  refine m_addN dL_law_907 ?_
  refine m_sld (i + 2) (by omega) (by omega) dL_law_908 ?_
  refine z_aload_n rfl rfl dL_law_909 ?_
  refine z_iload rfl dL_law_910 ?_
  refine z_iconst (nI 3) (by decide) dL_law_912 ?_
  refine m_addN dL_law_913 ?_
  refine m_sld (i + 3) (by omega) (by omega) dL_law_914 ?_
  refine z_aload_n rfl rfl dL_law_915 ?_
  refine z_iload rfl dL_law_916 ?_
  refine z_iconst (nI 4) (by decide) dL_law_918 ?_
  refine m_addN dL_law_919 ?_
  refine m_sld (i + 4) (by omega) (by omega) dL_law_920 ?_
  refine z_if_eq 928 (by decide) dL_law_921 (fun h1 => ?_) (fun h2 => ?_)
  · exact absurd h1 hb
  · refine z_iconst (nI 1) (by decide) dL_law_924 ?_
    refine z_goto 929 (by decide) dL_law_925 ?_
    refine z_aload_n rfl rfl dL_law_929 ?_
    refine z_callSX (as := [.ref (1), .int (xs (i + 1)), .int (xs (i + 2)), .int (xs (i + 3)), .int (nI 1), .ref (145)]) (wS_shrink c1) ko_L_shrink kl_L_134 rfl rfl ⟨by decide, by decide, by show u + 3 ≤ 601024; omega, by show us + 18 ≤ 7293034; omega⟩ (Nat.le_of_ble_eq_true rfl) rfl dL_law_930 ?_
    refine z_istore (by decide) rfl dL_law_933 ?_
    refine z_aload_n rfl rfl dL_law_935 ?_
    refine z_aload_n rfl rfl dL_law_936 ?_
    refine z_iload rfl dL_law_937 ?_
    refine z_iconst (nI 1) (by decide) dL_law_939 ?_
    refine m_addN dL_law_940 ?_
    refine m_sld (i + 1) (by omega) (by omega) dL_law_941 ?_
    refine z_aload_n rfl rfl dL_law_942 ?_
    refine z_iload rfl dL_law_943 ?_
    refine z_iconst (nI 2) (by decide) dL_law_945 ?_
    refine m_addN dL_law_946 ?_
    refine m_sld (i + 2) (by omega) (by omega) dL_law_947 ?_
    refine z_aload_n rfl rfl dL_law_948 ?_
    refine z_iload rfl dL_law_949 ?_
    refine z_iconst (nI 3) (by decide) dL_law_951 ?_
    refine m_addN dL_law_952 ?_
    refine m_sld (i + 3) (by omega) (by omega) dL_law_953 ?_
    refine z_aload_n rfl rfl dL_law_954 ?_
    refine z_iload rfl dL_law_955 ?_
    refine z_iconst (nI 4) (by decide) dL_law_957 ?_
    refine m_addN dL_law_958 ?_
    refine m_sld (i + 4) (by omega) (by omega) dL_law_959 ?_
    refine z_if_eq 967 (by decide) dL_law_960 (fun h3 => ?_) (fun h4 => ?_)
    · exact absurd h3 hb
    · refine z_iconst (nI 1) (by decide) dL_law_963 ?_
      refine z_goto 968 (by decide) dL_law_964 ?_
      refine z_callV (as := [.int (xs (i + 1)), .int (xs (i + 2)), .int (xs (i + 3)), .int (nI 1)]) (c2 _) ko_X8_shrink kl_L_137 rfl (zl_a rfl rfl) rfl rfl ⟨by decide, by decide, by show u + 3 ≤ 601024; omega, by show us + 18 ≤ 7293034; omega⟩ (Nat.le_of_ble_eq_true rfl) rfl dL_law_968 ?_
      refine z_istore (by decide) rfl dL_law_971 ?_
      refine z_aload_n rfl rfl dL_law_973 ?_
      refine z_callV (as := []) (ct_thr c3) ko_X8_thrown kl_L_99 rfl (zl_a rfl rfl) rfl rfl ⟨by decide, by decide, by show u + 3 ≤ 601024; omega, by show us + 18 ≤ 7293034; omega⟩ (Nat.le_of_ble_eq_true rfl) rfl dL_law_974 ?_
      refine z_iload rfl dL_law_977 ?_
      refine z_icmp_eq 984 (by decide) dL_law_979 (fun _ => ?_) (fun h => absurd h (by decide))
      refine z_iload rfl dL_law_984 ?_
      refine z_if_ne 1001 (by decide) dL_law_986 (fun _ => ?_) (fun h => absurd h (by decide))
      refine z_goto 1835 (by decide) dL_law_1001 ?_
      refine z_fgt [.ref (0), .ref (1), .ref (117), .ref (145), .int (nI i), .null, .null] ⟨Or.inl rfl, ⟨Or.inl rfl, ⟨Or.inl rfl, ⟨Or.inl rfl, ⟨Or.inl rfl, ⟨Or.inr rfl, ⟨Or.inr rfl, trivial⟩⟩⟩⟩⟩⟩⟩ ?_
      exact kk _ _ _ (by show u + 3 ≤ u + 8; omega) (by show us + 18 ≤ us + 40; omega)
set_option maxRecDepth 100000 in
set_option maxHeartbeats 4000000 in
theorem lk_shrink0_ok {L i u us : Nat} {xs : Nat → Int32} {μ μ1 μ2 : zMu} {g : Int64} {v : Int32} {o : zO} (hi : i + 6 ≤ L) (hL : L ≤ 3072) (hu : u + 8 ≤ 601024) (hus : us + 40 ≤ 7293034) (hb : xs (i + 4) = 0) (c1 : zCt (L, xs) kX7_shrink [.ref (1), .int (xs (i + 1)), .int (xs (i + 2)), .int (xs (i + 3)), .int (nI 0)] (zm μ g) (.inl (some (.int v)), zm μ1 g)) (c2 : ∀ g9, zCt (L, xs) kX8_shrink [.ref (117), .int (xs (i + 1)), .int (xs (i + 2)), .int (xs (i + 3)), .int (nI 0)] (zm μ1 g9) (.inl (some (.int v)), zm μ2 g9)) (c3 : μ2 117 0 = nI 0) (kk : ∀ g2 u9 us9, u9 ≤ u + 8 → us9 ≤ us + 40 → zV true (L, xs) kL_law 0 o 1835 [.ref (0), .ref (1), .ref (117), .ref (145), .int (nI i), .null, .null] [] (zm μ2 g2) u9 us9) : zV true (L, xs) kL_law 0 o 896 [.ref (0), .ref (1), .ref (117), .ref (145), .int (nI i), .null, .null] [] (zm μ g) u us := by
  refine z_aload_n rfl rfl dL_law_896 ?_
  refine z_aload_n rfl rfl dL_law_897 ?_
  refine z_iload rfl dL_law_898 ?_
  refine z_iconst (nI 1) (by decide) dL_law_900 ?_
  refine m_addN dL_law_901 ?_
  refine m_sld (i + 1) (by omega) (by omega) dL_law_902 ?_
  refine z_aload_n rfl rfl dL_law_903 ?_
  refine z_iload rfl dL_law_904 ?_
  refine z_iconst (nI 2) (by decide) dL_law_906 ?_
  refine m_addN dL_law_907 ?_
  refine m_sld (i + 2) (by omega) (by omega) dL_law_908 ?_
  refine z_aload_n rfl rfl dL_law_909 ?_
  refine z_iload rfl dL_law_910 ?_
  refine z_iconst (nI 3) (by decide) dL_law_912 ?_
  refine m_addN dL_law_913 ?_
  refine m_sld (i + 3) (by omega) (by omega) dL_law_914 ?_
  refine z_aload_n rfl rfl dL_law_915 ?_
  refine z_iload rfl dL_law_916 ?_
  refine z_iconst (nI 4) (by decide) dL_law_918 ?_
  refine m_addN dL_law_919 ?_
  refine m_sld (i + 4) (by omega) (by omega) dL_law_920 ?_
  refine z_if_eq 928 (by decide) dL_law_921 (fun h1 => ?_) (fun h2 => ?_)
  · refine z_iconst (nI 0) (by decide) dL_law_928 ?_
    refine z_aload_n rfl rfl dL_law_929 ?_
    refine z_callSX (as := [.ref (1), .int (xs (i + 1)), .int (xs (i + 2)), .int (xs (i + 3)), .int (nI 0), .ref (145)]) (w_shrink c1) ko_L_shrink kl_L_134 rfl rfl ⟨by decide, by decide, by show u + 3 ≤ 601024; omega, by show us + 18 ≤ 7293034; omega⟩ (Nat.le_of_ble_eq_true rfl) rfl dL_law_930 ?_
    refine z_istore (by decide) rfl dL_law_933 ?_
    refine z_aload_n rfl rfl dL_law_935 ?_
    refine z_aload_n rfl rfl dL_law_936 ?_
    refine z_iload rfl dL_law_937 ?_
    refine z_iconst (nI 1) (by decide) dL_law_939 ?_
    refine m_addN dL_law_940 ?_
    refine m_sld (i + 1) (by omega) (by omega) dL_law_941 ?_
    refine z_aload_n rfl rfl dL_law_942 ?_
    refine z_iload rfl dL_law_943 ?_
    refine z_iconst (nI 2) (by decide) dL_law_945 ?_
    refine m_addN dL_law_946 ?_
    refine m_sld (i + 2) (by omega) (by omega) dL_law_947 ?_
    refine z_aload_n rfl rfl dL_law_948 ?_
    refine z_iload rfl dL_law_949 ?_
    refine z_iconst (nI 3) (by decide) dL_law_951 ?_
    refine m_addN dL_law_952 ?_
    refine m_sld (i + 3) (by omega) (by omega) dL_law_953 ?_
    refine z_aload_n rfl rfl dL_law_954 ?_
    refine z_iload rfl dL_law_955 ?_
    refine z_iconst (nI 4) (by decide) dL_law_957 ?_
    refine m_addN dL_law_958 ?_
    refine m_sld (i + 4) (by omega) (by omega) dL_law_959 ?_
    refine z_if_eq 967 (by decide) dL_law_960 (fun h3 => ?_) (fun h4 => ?_)
    · refine z_iconst (nI 0) (by decide) dL_law_967 ?_
      refine z_callV (as := [.int (xs (i + 1)), .int (xs (i + 2)), .int (xs (i + 3)), .int (nI 0)]) (c2 _) ko_X8_shrink kl_L_137 rfl (zl_a rfl rfl) rfl rfl ⟨by decide, by decide, by show u + 3 ≤ 601024; omega, by show us + 18 ≤ 7293034; omega⟩ (Nat.le_of_ble_eq_true rfl) rfl dL_law_968 ?_
      refine z_istore (by decide) rfl dL_law_971 ?_
      refine z_aload_n rfl rfl dL_law_973 ?_
      refine z_callV (as := []) (ct_thr c3) ko_X8_thrown kl_L_99 rfl (zl_a rfl rfl) rfl rfl ⟨by decide, by decide, by show u + 3 ≤ 601024; omega, by show us + 18 ≤ 7293034; omega⟩ (Nat.le_of_ble_eq_true rfl) rfl dL_law_974 ?_
      refine z_iload rfl dL_law_977 ?_
      refine z_icmp_eq 984 (by decide) dL_law_979 (fun _ => ?_) (fun h => absurd h (by decide))
      refine z_iload rfl dL_law_984 ?_
      refine z_if_ne 1001 (by decide) dL_law_986 (fun h => absurd h (by decide)) (fun _ => ?_)
      refine z_aload_n rfl rfl dL_law_989 ?_
      refine z_iconst (nI 0) (by decide) dL_law_990 ?_
      refine z_lald (zl_a rfl rfl) (vp_in_nI (by decide) (by decide)) dL_law_991 ?_
      refine z_iload rfl dL_law_992 ?_
      refine z_i2l dL_law_994 ?_
      refine z_lcmp dL_law_995 ?_
      refine m_eqv (w := nI 0) (lg_self _) ?_
      refine z_if_eq 1001 (by decide) dL_law_996 (fun _ => ?_) (fun h => absurd h (by decide))
      refine z_goto 1835 (by decide) dL_law_1001 ?_
      refine z_fgt [.ref (0), .ref (1), .ref (117), .ref (145), .int (nI i), .null, .null] ⟨Or.inl rfl, ⟨Or.inl rfl, ⟨Or.inl rfl, ⟨Or.inl rfl, ⟨Or.inl rfl, ⟨Or.inr rfl, ⟨Or.inr rfl, trivial⟩⟩⟩⟩⟩⟩⟩ ?_
      exact kk _ _ _ (by show u + 3 ≤ u + 8; omega) (by show us + 18 ≤ us + 40; omega)
    · exact absurd hb h4
  · exact absurd hb h2
set_option maxRecDepth 100000 in
set_option maxHeartbeats 4000000 in
theorem lk_shrink0_I {L i u us : Nat} {xs : Nat → Int32} {μ μ1 μ2 : zMu} {g : Int64} {w : Int32} {o : zO} (hi : i + 6 ≤ L) (hL : L ≤ 3072) (hu : u + 8 ≤ 601024) (hus : us + 40 ≤ 7293034) (hb : xs (i + 4) = 0) (c1 : zCt (L, xs) kX7_shrink [.ref (1), .int (xs (i + 1)), .int (xs (i + 2)), .int (xs (i + 3)), .int (nI 0)] (zm μ g) (.inr xI, zm μ g)) (c2 : ∀ g9, zCt (L, xs) kX8_shrink [.ref (117), .int (xs (i + 1)), .int (xs (i + 2)), .int (xs (i + 3)), .int (nI 0)] (zm μ g9) (.inl (some (.int w)), zm μ2 g9)) (c3 : μ2 117 0 = nI 1) (kk : ∀ g2 u9 us9, u9 ≤ u + 8 → us9 ≤ us + 40 → zV true (L, xs) kL_law 0 o 1835 [.ref (0), .ref (1), .ref (117), .ref (145), .int (nI i), .null, .null] [] (zm μ2 g2) u9 us9) : zV true (L, xs) kL_law 0 o 896 [.ref (0), .ref (1), .ref (117), .ref (145), .int (nI i), .null, .null] [] (zm μ g) u us := by
  refine z_aload_n rfl rfl dL_law_896 ?_
  refine z_aload_n rfl rfl dL_law_897 ?_
  refine z_iload rfl dL_law_898 ?_
  refine z_iconst (nI 1) (by decide) dL_law_900 ?_
  refine m_addN dL_law_901 ?_
  refine m_sld (i + 1) (by omega) (by omega) dL_law_902 ?_
  refine z_aload_n rfl rfl dL_law_903 ?_
  refine z_iload rfl dL_law_904 ?_
  refine z_iconst (nI 2) (by decide) dL_law_906 ?_
  refine m_addN dL_law_907 ?_
  refine m_sld (i + 2) (by omega) (by omega) dL_law_908 ?_
  refine z_aload_n rfl rfl dL_law_909 ?_
  refine z_iload rfl dL_law_910 ?_
  refine z_iconst (nI 3) (by decide) dL_law_912 ?_
  refine m_addN dL_law_913 ?_
  refine m_sld (i + 3) (by omega) (by omega) dL_law_914 ?_
  refine z_aload_n rfl rfl dL_law_915 ?_
  refine z_iload rfl dL_law_916 ?_
  refine z_iconst (nI 4) (by decide) dL_law_918 ?_
  refine m_addN dL_law_919 ?_
  refine m_sld (i + 4) (by omega) (by omega) dL_law_920 ?_
  refine z_if_eq 928 (by decide) dL_law_921 (fun h1 => ?_) (fun h2 => ?_)
  · refine z_iconst (nI 0) (by decide) dL_law_928 ?_
    refine z_aload_n rfl rfl dL_law_929 ?_
    refine z_callSX (as := [.ref (1), .int (xs (i + 1)), .int (xs (i + 2)), .int (xs (i + 3)), .int (nI 0), .ref (145)]) (wI_shrink c1) ko_L_shrink kl_L_134 rfl rfl ⟨by decide, by decide, by show u + 3 ≤ 601024; omega, by show us + 18 ≤ 7293034; omega⟩ (Nat.le_of_ble_eq_true rfl) rfl dL_law_930 ?_
    refine z_istore (by decide) rfl dL_law_933 ?_
    refine z_aload_n rfl rfl dL_law_935 ?_
    refine z_aload_n rfl rfl dL_law_936 ?_
    refine z_iload rfl dL_law_937 ?_
    refine z_iconst (nI 1) (by decide) dL_law_939 ?_
    refine m_addN dL_law_940 ?_
    refine m_sld (i + 1) (by omega) (by omega) dL_law_941 ?_
    refine z_aload_n rfl rfl dL_law_942 ?_
    refine z_iload rfl dL_law_943 ?_
    refine z_iconst (nI 2) (by decide) dL_law_945 ?_
    refine m_addN dL_law_946 ?_
    refine m_sld (i + 2) (by omega) (by omega) dL_law_947 ?_
    refine z_aload_n rfl rfl dL_law_948 ?_
    refine z_iload rfl dL_law_949 ?_
    refine z_iconst (nI 3) (by decide) dL_law_951 ?_
    refine m_addN dL_law_952 ?_
    refine m_sld (i + 3) (by omega) (by omega) dL_law_953 ?_
    refine z_aload_n rfl rfl dL_law_954 ?_
    refine z_iload rfl dL_law_955 ?_
    refine z_iconst (nI 4) (by decide) dL_law_957 ?_
    refine m_addN dL_law_958 ?_
    refine m_sld (i + 4) (by omega) (by omega) dL_law_959 ?_
    refine z_if_eq 967 (by decide) dL_law_960 (fun h3 => ?_) (fun h4 => ?_)
    · refine z_iconst (nI 0) (by decide) dL_law_967 ?_
      refine z_callV (as := [.int (xs (i + 1)), .int (xs (i + 2)), .int (xs (i + 3)), .int (nI 0)]) (c2 _) ko_X8_shrink kl_L_137 rfl (zl_a rfl rfl) rfl rfl ⟨by decide, by decide, by show u + 3 ≤ 601024; omega, by show us + 18 ≤ 7293034; omega⟩ (Nat.le_of_ble_eq_true rfl) rfl dL_law_968 ?_
      refine z_istore (by decide) rfl dL_law_971 ?_
      refine z_aload_n rfl rfl dL_law_973 ?_
      refine z_callV (as := []) (ct_thr c3) ko_X8_thrown kl_L_99 rfl (zl_a rfl rfl) rfl rfl ⟨by decide, by decide, by show u + 3 ≤ 601024; omega, by show us + 18 ≤ 7293034; omega⟩ (Nat.le_of_ble_eq_true rfl) rfl dL_law_974 ?_
      refine z_iload rfl dL_law_977 ?_
      refine z_icmp_eq 984 (by decide) dL_law_979 (fun _ => ?_) (fun h => absurd h (by decide))
      refine z_iload rfl dL_law_984 ?_
      refine z_if_ne 1001 (by decide) dL_law_986 (fun _ => ?_) (fun h => absurd h (by decide))
      refine z_goto 1835 (by decide) dL_law_1001 ?_
      refine z_fgt [.ref (0), .ref (1), .ref (117), .ref (145), .int (nI i), .null, .null] ⟨Or.inl rfl, ⟨Or.inl rfl, ⟨Or.inl rfl, ⟨Or.inl rfl, ⟨Or.inl rfl, ⟨Or.inr rfl, ⟨Or.inr rfl, trivial⟩⟩⟩⟩⟩⟩⟩ ?_
      exact kk _ _ _ (by show u + 3 ≤ u + 8; omega) (by show us + 18 ≤ us + 40; omega)
    · exact absurd hb h4
  · exact absurd hb h2
set_option maxRecDepth 100000 in
set_option maxHeartbeats 4000000 in
theorem lk_shrink0_A {L i u us : Nat} {xs : Nat → Int32} {μ μ1 μ2 : zMu} {g : Int64} {w : Int32} {o : zO} (hi : i + 6 ≤ L) (hL : L ≤ 3072) (hu : u + 8 ≤ 601024) (hus : us + 40 ≤ 7293034) (hb : xs (i + 4) = 0) (c1 : zCt (L, xs) kX7_shrink [.ref (1), .int (xs (i + 1)), .int (xs (i + 2)), .int (xs (i + 3)), .int (nI 0)] (zm μ g) (.inr xA, zm μ g)) (c2 : ∀ g9, zCt (L, xs) kX8_shrink [.ref (117), .int (xs (i + 1)), .int (xs (i + 2)), .int (xs (i + 3)), .int (nI 0)] (zm μ g9) (.inl (some (.int w)), zm μ2 g9)) (c3 : μ2 117 0 = nI 2) (kk : ∀ g2 u9 us9, u9 ≤ u + 8 → us9 ≤ us + 40 → zV true (L, xs) kL_law 0 o 1835 [.ref (0), .ref (1), .ref (117), .ref (145), .int (nI i), .null, .null] [] (zm μ2 g2) u9 us9) : zV true (L, xs) kL_law 0 o 896 [.ref (0), .ref (1), .ref (117), .ref (145), .int (nI i), .null, .null] [] (zm μ g) u us := by
  refine z_aload_n rfl rfl dL_law_896 ?_
  refine z_aload_n rfl rfl dL_law_897 ?_
  refine z_iload rfl dL_law_898 ?_
  refine z_iconst (nI 1) (by decide) dL_law_900 ?_
  refine m_addN dL_law_901 ?_
  refine m_sld (i + 1) (by omega) (by omega) dL_law_902 ?_
  refine z_aload_n rfl rfl dL_law_903 ?_
  refine z_iload rfl dL_law_904 ?_
  refine z_iconst (nI 2) (by decide) dL_law_906 ?_
  refine m_addN dL_law_907 ?_
  refine m_sld (i + 2) (by omega) (by omega) dL_law_908 ?_
  refine z_aload_n rfl rfl dL_law_909 ?_
  refine z_iload rfl dL_law_910 ?_
  refine z_iconst (nI 3) (by decide) dL_law_912 ?_
  refine m_addN dL_law_913 ?_
  refine m_sld (i + 3) (by omega) (by omega) dL_law_914 ?_
  refine z_aload_n rfl rfl dL_law_915 ?_
  refine z_iload rfl dL_law_916 ?_
  refine z_iconst (nI 4) (by decide) dL_law_918 ?_
  refine m_addN dL_law_919 ?_
  refine m_sld (i + 4) (by omega) (by omega) dL_law_920 ?_
  refine z_if_eq 928 (by decide) dL_law_921 (fun h1 => ?_) (fun h2 => ?_)
  · refine z_iconst (nI 0) (by decide) dL_law_928 ?_
    refine z_aload_n rfl rfl dL_law_929 ?_
    refine z_callSX (as := [.ref (1), .int (xs (i + 1)), .int (xs (i + 2)), .int (xs (i + 3)), .int (nI 0), .ref (145)]) (wA_shrink c1) ko_L_shrink kl_L_134 rfl rfl ⟨by decide, by decide, by show u + 3 ≤ 601024; omega, by show us + 18 ≤ 7293034; omega⟩ (Nat.le_of_ble_eq_true rfl) rfl dL_law_930 ?_
    refine z_istore (by decide) rfl dL_law_933 ?_
    refine z_aload_n rfl rfl dL_law_935 ?_
    refine z_aload_n rfl rfl dL_law_936 ?_
    refine z_iload rfl dL_law_937 ?_
    refine z_iconst (nI 1) (by decide) dL_law_939 ?_
    refine m_addN dL_law_940 ?_
    refine m_sld (i + 1) (by omega) (by omega) dL_law_941 ?_
    refine z_aload_n rfl rfl dL_law_942 ?_
    refine z_iload rfl dL_law_943 ?_
    refine z_iconst (nI 2) (by decide) dL_law_945 ?_
    refine m_addN dL_law_946 ?_
    refine m_sld (i + 2) (by omega) (by omega) dL_law_947 ?_
    refine z_aload_n rfl rfl dL_law_948 ?_
    refine z_iload rfl dL_law_949 ?_
    refine z_iconst (nI 3) (by decide) dL_law_951 ?_
    refine m_addN dL_law_952 ?_
    refine m_sld (i + 3) (by omega) (by omega) dL_law_953 ?_
    refine z_aload_n rfl rfl dL_law_954 ?_
    refine z_iload rfl dL_law_955 ?_
    refine z_iconst (nI 4) (by decide) dL_law_957 ?_
    refine m_addN dL_law_958 ?_
    refine m_sld (i + 4) (by omega) (by omega) dL_law_959 ?_
    refine z_if_eq 967 (by decide) dL_law_960 (fun h3 => ?_) (fun h4 => ?_)
    · refine z_iconst (nI 0) (by decide) dL_law_967 ?_
      refine z_callV (as := [.int (xs (i + 1)), .int (xs (i + 2)), .int (xs (i + 3)), .int (nI 0)]) (c2 _) ko_X8_shrink kl_L_137 rfl (zl_a rfl rfl) rfl rfl ⟨by decide, by decide, by show u + 3 ≤ 601024; omega, by show us + 18 ≤ 7293034; omega⟩ (Nat.le_of_ble_eq_true rfl) rfl dL_law_968 ?_
      refine z_istore (by decide) rfl dL_law_971 ?_
      refine z_aload_n rfl rfl dL_law_973 ?_
      refine z_callV (as := []) (ct_thr c3) ko_X8_thrown kl_L_99 rfl (zl_a rfl rfl) rfl rfl ⟨by decide, by decide, by show u + 3 ≤ 601024; omega, by show us + 18 ≤ 7293034; omega⟩ (Nat.le_of_ble_eq_true rfl) rfl dL_law_974 ?_
      refine z_iload rfl dL_law_977 ?_
      refine z_icmp_eq 984 (by decide) dL_law_979 (fun _ => ?_) (fun h => absurd h (by decide))
      refine z_iload rfl dL_law_984 ?_
      refine z_if_ne 1001 (by decide) dL_law_986 (fun _ => ?_) (fun h => absurd h (by decide))
      refine z_goto 1835 (by decide) dL_law_1001 ?_
      refine z_fgt [.ref (0), .ref (1), .ref (117), .ref (145), .int (nI i), .null, .null] ⟨Or.inl rfl, ⟨Or.inl rfl, ⟨Or.inl rfl, ⟨Or.inl rfl, ⟨Or.inl rfl, ⟨Or.inr rfl, ⟨Or.inr rfl, trivial⟩⟩⟩⟩⟩⟩⟩ ?_
      exact kk _ _ _ (by show u + 3 ≤ u + 8; omega) (by show us + 18 ≤ us + 40; omega)
    · exact absurd hb h4
  · exact absurd hb h2
set_option maxRecDepth 100000 in
set_option maxHeartbeats 4000000 in
theorem lk_shrink0_S {L i u us : Nat} {xs : Nat → Int32} {μ μ1 μ2 : zMu} {g : Int64} {w : Int32} {o : zO} (hi : i + 6 ≤ L) (hL : L ≤ 3072) (hu : u + 8 ≤ 601024) (hus : us + 40 ≤ 7293034) (hb : xs (i + 4) = 0) (c1 : zCt (L, xs) kX7_shrink [.ref (1), .int (xs (i + 1)), .int (xs (i + 2)), .int (xs (i + 3)), .int (nI 0)] (zm μ g) (.inr xS, zm μ g)) (c2 : ∀ g9, zCt (L, xs) kX8_shrink [.ref (117), .int (xs (i + 1)), .int (xs (i + 2)), .int (xs (i + 3)), .int (nI 0)] (zm μ g9) (.inl (some (.int w)), zm μ2 g9)) (c3 : μ2 117 0 = nI 3) (kk : ∀ g2 u9 us9, u9 ≤ u + 8 → us9 ≤ us + 40 → zV true (L, xs) kL_law 0 o 1835 [.ref (0), .ref (1), .ref (117), .ref (145), .int (nI i), .null, .null] [] (zm μ2 g2) u9 us9) : zV true (L, xs) kL_law 0 o 896 [.ref (0), .ref (1), .ref (117), .ref (145), .int (nI i), .null, .null] [] (zm μ g) u us := by
  refine z_aload_n rfl rfl dL_law_896 ?_
  refine z_aload_n rfl rfl dL_law_897 ?_
  refine z_iload rfl dL_law_898 ?_
  refine z_iconst (nI 1) (by decide) dL_law_900 ?_
  refine m_addN dL_law_901 ?_
  refine m_sld (i + 1) (by omega) (by omega) dL_law_902 ?_
  refine z_aload_n rfl rfl dL_law_903 ?_
  refine z_iload rfl dL_law_904 ?_
  refine z_iconst (nI 2) (by decide) dL_law_906 ?_
  refine m_addN dL_law_907 ?_
  refine m_sld (i + 2) (by omega) (by omega) dL_law_908 ?_
  refine z_aload_n rfl rfl dL_law_909 ?_
  refine z_iload rfl dL_law_910 ?_
  refine z_iconst (nI 3) (by decide) dL_law_912 ?_
  refine m_addN dL_law_913 ?_
  refine m_sld (i + 3) (by omega) (by omega) dL_law_914 ?_
  refine z_aload_n rfl rfl dL_law_915 ?_
  refine z_iload rfl dL_law_916 ?_
  refine z_iconst (nI 4) (by decide) dL_law_918 ?_
  refine m_addN dL_law_919 ?_
  refine m_sld (i + 4) (by omega) (by omega) dL_law_920 ?_
  refine z_if_eq 928 (by decide) dL_law_921 (fun h1 => ?_) (fun h2 => ?_)
  · refine z_iconst (nI 0) (by decide) dL_law_928 ?_
    refine z_aload_n rfl rfl dL_law_929 ?_
    refine z_callSX (as := [.ref (1), .int (xs (i + 1)), .int (xs (i + 2)), .int (xs (i + 3)), .int (nI 0), .ref (145)]) (wS_shrink c1) ko_L_shrink kl_L_134 rfl rfl ⟨by decide, by decide, by show u + 3 ≤ 601024; omega, by show us + 18 ≤ 7293034; omega⟩ (Nat.le_of_ble_eq_true rfl) rfl dL_law_930 ?_
    refine z_istore (by decide) rfl dL_law_933 ?_
    refine z_aload_n rfl rfl dL_law_935 ?_
    refine z_aload_n rfl rfl dL_law_936 ?_
    refine z_iload rfl dL_law_937 ?_
    refine z_iconst (nI 1) (by decide) dL_law_939 ?_
    refine m_addN dL_law_940 ?_
    refine m_sld (i + 1) (by omega) (by omega) dL_law_941 ?_
    refine z_aload_n rfl rfl dL_law_942 ?_
    refine z_iload rfl dL_law_943 ?_
    refine z_iconst (nI 2) (by decide) dL_law_945 ?_
    refine m_addN dL_law_946 ?_
    refine m_sld (i + 2) (by omega) (by omega) dL_law_947 ?_
    refine z_aload_n rfl rfl dL_law_948 ?_
    refine z_iload rfl dL_law_949 ?_
    refine z_iconst (nI 3) (by decide) dL_law_951 ?_
    refine m_addN dL_law_952 ?_
    refine m_sld (i + 3) (by omega) (by omega) dL_law_953 ?_
    refine z_aload_n rfl rfl dL_law_954 ?_
    refine z_iload rfl dL_law_955 ?_
    refine z_iconst (nI 4) (by decide) dL_law_957 ?_
    refine m_addN dL_law_958 ?_
    refine m_sld (i + 4) (by omega) (by omega) dL_law_959 ?_
    refine z_if_eq 967 (by decide) dL_law_960 (fun h3 => ?_) (fun h4 => ?_)
    · refine z_iconst (nI 0) (by decide) dL_law_967 ?_
      refine z_callV (as := [.int (xs (i + 1)), .int (xs (i + 2)), .int (xs (i + 3)), .int (nI 0)]) (c2 _) ko_X8_shrink kl_L_137 rfl (zl_a rfl rfl) rfl rfl ⟨by decide, by decide, by show u + 3 ≤ 601024; omega, by show us + 18 ≤ 7293034; omega⟩ (Nat.le_of_ble_eq_true rfl) rfl dL_law_968 ?_
      refine z_istore (by decide) rfl dL_law_971 ?_
      refine z_aload_n rfl rfl dL_law_973 ?_
      refine z_callV (as := []) (ct_thr c3) ko_X8_thrown kl_L_99 rfl (zl_a rfl rfl) rfl rfl ⟨by decide, by decide, by show u + 3 ≤ 601024; omega, by show us + 18 ≤ 7293034; omega⟩ (Nat.le_of_ble_eq_true rfl) rfl dL_law_974 ?_
      refine z_iload rfl dL_law_977 ?_
      refine z_icmp_eq 984 (by decide) dL_law_979 (fun _ => ?_) (fun h => absurd h (by decide))
      refine z_iload rfl dL_law_984 ?_
      refine z_if_ne 1001 (by decide) dL_law_986 (fun _ => ?_) (fun h => absurd h (by decide))
      refine z_goto 1835 (by decide) dL_law_1001 ?_
      refine z_fgt [.ref (0), .ref (1), .ref (117), .ref (145), .int (nI i), .null, .null] ⟨Or.inl rfl, ⟨Or.inl rfl, ⟨Or.inl rfl, ⟨Or.inl rfl, ⟨Or.inl rfl, ⟨Or.inr rfl, ⟨Or.inr rfl, trivial⟩⟩⟩⟩⟩⟩⟩ ?_
      exact kk _ _ _ (by show u + 3 ≤ u + 8; omega) (by show us + 18 ≤ us + 40; omega)
    · exact absurd hb h4
  · exact absurd hb h2
set_option maxRecDepth 100000 in
set_option maxHeartbeats 4000000 in
theorem lk_lose_ok {L i u us : Nat} {xs : Nat → Int32} {μ μ1 μ2 : zMu} {g : Int64} {v : Int32} {o : zO} (hi : i + 6 ≤ L) (hL : L ≤ 3072) (hu : u + 8 ≤ 601024) (hus : us + 40 ≤ 7293034) (c1 : zCt (L, xs) kX7_lose [.ref (1), .int (xs (i + 1)), .int (xs (i + 2)), .int (xs (i + 3))] (zm μ g) (.inl (some (.int v)), zm μ1 g)) (c2 : ∀ g9, zCt (L, xs) kX8_lose [.ref (117), .int (xs (i + 1)), .int (xs (i + 2)), .int (xs (i + 3))] (zm μ1 g9) (.inl (some (.int v)), zm μ2 g9)) (c3 : μ2 117 0 = nI 0) (kk : ∀ g2 u9 us9, u9 ≤ u + 8 → us9 ≤ us + 40 → zV true (L, xs) kL_law 0 o 1835 [.ref (0), .ref (1), .ref (117), .ref (145), .int (nI i), .null, .null] [] (zm μ2 g2) u9 us9) : zV true (L, xs) kL_law 0 o 1004 [.ref (0), .ref (1), .ref (117), .ref (145), .int (nI i), .null, .null] [] (zm μ g) u us := by
  refine z_aload_n rfl rfl dL_law_1004 ?_
  refine z_aload_n rfl rfl dL_law_1005 ?_
  refine z_iload rfl dL_law_1006 ?_
  refine z_iconst (nI 1) (by decide) dL_law_1008 ?_
  refine m_addN dL_law_1009 ?_
  refine m_sld (i + 1) (by omega) (by omega) dL_law_1010 ?_
  refine z_aload_n rfl rfl dL_law_1011 ?_
  refine z_iload rfl dL_law_1012 ?_
  refine z_iconst (nI 2) (by decide) dL_law_1014 ?_
  refine m_addN dL_law_1015 ?_
  refine m_sld (i + 2) (by omega) (by omega) dL_law_1016 ?_
  refine z_aload_n rfl rfl dL_law_1017 ?_
  refine z_iload rfl dL_law_1018 ?_
  refine z_iconst (nI 3) (by decide) dL_law_1020 ?_
  refine m_addN dL_law_1021 ?_
  refine m_sld (i + 3) (by omega) (by omega) dL_law_1022 ?_
  refine z_aload_n rfl rfl dL_law_1023 ?_
  refine z_callSX (as := [.ref (1), .int (xs (i + 1)), .int (xs (i + 2)), .int (xs (i + 3)), .ref (145)]) (w_lose c1) ko_L_lose kl_L_138 rfl rfl ⟨by decide, by decide, by show u + 4 ≤ 601024; omega, by show us + 24 ≤ 7293034; omega⟩ (Nat.le_of_ble_eq_true rfl) rfl dL_law_1024 ?_
  refine z_istore (by decide) rfl dL_law_1027 ?_
  refine z_aload_n rfl rfl dL_law_1029 ?_
  refine z_aload_n rfl rfl dL_law_1030 ?_
  refine z_iload rfl dL_law_1031 ?_
  refine z_iconst (nI 1) (by decide) dL_law_1033 ?_
  refine m_addN dL_law_1034 ?_
  refine m_sld (i + 1) (by omega) (by omega) dL_law_1035 ?_
  refine z_aload_n rfl rfl dL_law_1036 ?_
  refine z_iload rfl dL_law_1037 ?_
  refine z_iconst (nI 2) (by decide) dL_law_1039 ?_
  refine m_addN dL_law_1040 ?_
  refine m_sld (i + 2) (by omega) (by omega) dL_law_1041 ?_
  refine z_aload_n rfl rfl dL_law_1042 ?_
  refine z_iload rfl dL_law_1043 ?_
  refine z_iconst (nI 3) (by decide) dL_law_1045 ?_
  refine m_addN dL_law_1046 ?_
  refine m_sld (i + 3) (by omega) (by omega) dL_law_1047 ?_
  refine z_callV (as := [.int (xs (i + 1)), .int (xs (i + 2)), .int (xs (i + 3))]) (c2 _) ko_X8_lose kl_L_140 rfl (zl_a rfl rfl) rfl rfl ⟨by decide, by decide, by show u + 4 ≤ 601024; omega, by show us + 24 ≤ 7293034; omega⟩ (Nat.le_of_ble_eq_true rfl) rfl dL_law_1048 ?_
  refine z_istore (by decide) rfl dL_law_1051 ?_
  refine z_aload_n rfl rfl dL_law_1053 ?_
  refine z_callV (as := []) (ct_thr c3) ko_X8_thrown kl_L_99 rfl (zl_a rfl rfl) rfl rfl ⟨by decide, by decide, by show u + 4 ≤ 601024; omega, by show us + 24 ≤ 7293034; omega⟩ (Nat.le_of_ble_eq_true rfl) rfl dL_law_1054 ?_
  refine z_iload rfl dL_law_1057 ?_
  refine z_icmp_eq 1064 (by decide) dL_law_1059 (fun _ => ?_) (fun h => absurd h (by decide))
  refine z_iload rfl dL_law_1064 ?_
  refine z_if_ne 1081 (by decide) dL_law_1066 (fun h => absurd h (by decide)) (fun _ => ?_)
  refine z_aload_n rfl rfl dL_law_1069 ?_
  refine z_iconst (nI 0) (by decide) dL_law_1070 ?_
  refine z_lald (zl_a rfl rfl) (vp_in_nI (by decide) (by decide)) dL_law_1071 ?_
  refine z_iload rfl dL_law_1072 ?_
  refine z_i2l dL_law_1074 ?_
  refine z_lcmp dL_law_1075 ?_
  refine m_eqv (w := nI 0) (lg_self _) ?_
  refine z_if_eq 1081 (by decide) dL_law_1076 (fun _ => ?_) (fun h => absurd h (by decide))
  refine z_goto 1835 (by decide) dL_law_1081 ?_
  refine z_fgt [.ref (0), .ref (1), .ref (117), .ref (145), .int (nI i), .null, .null] ⟨Or.inl rfl, ⟨Or.inl rfl, ⟨Or.inl rfl, ⟨Or.inl rfl, ⟨Or.inl rfl, ⟨Or.inr rfl, ⟨Or.inr rfl, trivial⟩⟩⟩⟩⟩⟩⟩ ?_
  exact kk _ _ _ (by show u + 4 ≤ u + 8; omega) (by show us + 24 ≤ us + 40; omega)
set_option maxRecDepth 100000 in
set_option maxHeartbeats 4000000 in
theorem lk_lose_I {L i u us : Nat} {xs : Nat → Int32} {μ μ1 μ2 : zMu} {g : Int64} {w : Int32} {o : zO} (hi : i + 6 ≤ L) (hL : L ≤ 3072) (hu : u + 8 ≤ 601024) (hus : us + 40 ≤ 7293034) (c1 : zCt (L, xs) kX7_lose [.ref (1), .int (xs (i + 1)), .int (xs (i + 2)), .int (xs (i + 3))] (zm μ g) (.inr xI, zm μ g)) (c2 : ∀ g9, zCt (L, xs) kX8_lose [.ref (117), .int (xs (i + 1)), .int (xs (i + 2)), .int (xs (i + 3))] (zm μ g9) (.inl (some (.int w)), zm μ2 g9)) (c3 : μ2 117 0 = nI 1) (kk : ∀ g2 u9 us9, u9 ≤ u + 8 → us9 ≤ us + 40 → zV true (L, xs) kL_law 0 o 1835 [.ref (0), .ref (1), .ref (117), .ref (145), .int (nI i), .null, .null] [] (zm μ2 g2) u9 us9) : zV true (L, xs) kL_law 0 o 1004 [.ref (0), .ref (1), .ref (117), .ref (145), .int (nI i), .null, .null] [] (zm μ g) u us := by
  refine z_aload_n rfl rfl dL_law_1004 ?_
  refine z_aload_n rfl rfl dL_law_1005 ?_
  refine z_iload rfl dL_law_1006 ?_
  refine z_iconst (nI 1) (by decide) dL_law_1008 ?_
  refine m_addN dL_law_1009 ?_
  refine m_sld (i + 1) (by omega) (by omega) dL_law_1010 ?_
  refine z_aload_n rfl rfl dL_law_1011 ?_
  refine z_iload rfl dL_law_1012 ?_
  refine z_iconst (nI 2) (by decide) dL_law_1014 ?_
  refine m_addN dL_law_1015 ?_
  refine m_sld (i + 2) (by omega) (by omega) dL_law_1016 ?_
  refine z_aload_n rfl rfl dL_law_1017 ?_
  refine z_iload rfl dL_law_1018 ?_
  refine z_iconst (nI 3) (by decide) dL_law_1020 ?_
  refine m_addN dL_law_1021 ?_
  refine m_sld (i + 3) (by omega) (by omega) dL_law_1022 ?_
  refine z_aload_n rfl rfl dL_law_1023 ?_
  refine z_callSX (as := [.ref (1), .int (xs (i + 1)), .int (xs (i + 2)), .int (xs (i + 3)), .ref (145)]) (wI_lose c1) ko_L_lose kl_L_138 rfl rfl ⟨by decide, by decide, by show u + 4 ≤ 601024; omega, by show us + 24 ≤ 7293034; omega⟩ (Nat.le_of_ble_eq_true rfl) rfl dL_law_1024 ?_
  refine z_istore (by decide) rfl dL_law_1027 ?_
  refine z_aload_n rfl rfl dL_law_1029 ?_
  refine z_aload_n rfl rfl dL_law_1030 ?_
  refine z_iload rfl dL_law_1031 ?_
  refine z_iconst (nI 1) (by decide) dL_law_1033 ?_
  refine m_addN dL_law_1034 ?_
  refine m_sld (i + 1) (by omega) (by omega) dL_law_1035 ?_
  refine z_aload_n rfl rfl dL_law_1036 ?_
  refine z_iload rfl dL_law_1037 ?_
  refine z_iconst (nI 2) (by decide) dL_law_1039 ?_
  refine m_addN dL_law_1040 ?_
  refine m_sld (i + 2) (by omega) (by omega) dL_law_1041 ?_
  refine z_aload_n rfl rfl dL_law_1042 ?_
  refine z_iload rfl dL_law_1043 ?_
  refine z_iconst (nI 3) (by decide) dL_law_1045 ?_
  refine m_addN dL_law_1046 ?_
  refine m_sld (i + 3) (by omega) (by omega) dL_law_1047 ?_
  refine z_callV (as := [.int (xs (i + 1)), .int (xs (i + 2)), .int (xs (i + 3))]) (c2 _) ko_X8_lose kl_L_140 rfl (zl_a rfl rfl) rfl rfl ⟨by decide, by decide, by show u + 4 ≤ 601024; omega, by show us + 24 ≤ 7293034; omega⟩ (Nat.le_of_ble_eq_true rfl) rfl dL_law_1048 ?_
  refine z_istore (by decide) rfl dL_law_1051 ?_
  refine z_aload_n rfl rfl dL_law_1053 ?_
  refine z_callV (as := []) (ct_thr c3) ko_X8_thrown kl_L_99 rfl (zl_a rfl rfl) rfl rfl ⟨by decide, by decide, by show u + 4 ≤ 601024; omega, by show us + 24 ≤ 7293034; omega⟩ (Nat.le_of_ble_eq_true rfl) rfl dL_law_1054 ?_
  refine z_iload rfl dL_law_1057 ?_
  refine z_icmp_eq 1064 (by decide) dL_law_1059 (fun _ => ?_) (fun h => absurd h (by decide))
  refine z_iload rfl dL_law_1064 ?_
  refine z_if_ne 1081 (by decide) dL_law_1066 (fun _ => ?_) (fun h => absurd h (by decide))
  refine z_goto 1835 (by decide) dL_law_1081 ?_
  refine z_fgt [.ref (0), .ref (1), .ref (117), .ref (145), .int (nI i), .null, .null] ⟨Or.inl rfl, ⟨Or.inl rfl, ⟨Or.inl rfl, ⟨Or.inl rfl, ⟨Or.inl rfl, ⟨Or.inr rfl, ⟨Or.inr rfl, trivial⟩⟩⟩⟩⟩⟩⟩ ?_
  exact kk _ _ _ (by show u + 4 ≤ u + 8; omega) (by show us + 24 ≤ us + 40; omega)
set_option maxRecDepth 100000 in
set_option maxHeartbeats 4000000 in
theorem lk_lose_A {L i u us : Nat} {xs : Nat → Int32} {μ μ1 μ2 : zMu} {g : Int64} {w : Int32} {o : zO} (hi : i + 6 ≤ L) (hL : L ≤ 3072) (hu : u + 8 ≤ 601024) (hus : us + 40 ≤ 7293034) (c1 : zCt (L, xs) kX7_lose [.ref (1), .int (xs (i + 1)), .int (xs (i + 2)), .int (xs (i + 3))] (zm μ g) (.inr xA, zm μ g)) (c2 : ∀ g9, zCt (L, xs) kX8_lose [.ref (117), .int (xs (i + 1)), .int (xs (i + 2)), .int (xs (i + 3))] (zm μ g9) (.inl (some (.int w)), zm μ2 g9)) (c3 : μ2 117 0 = nI 2) (kk : ∀ g2 u9 us9, u9 ≤ u + 8 → us9 ≤ us + 40 → zV true (L, xs) kL_law 0 o 1835 [.ref (0), .ref (1), .ref (117), .ref (145), .int (nI i), .null, .null] [] (zm μ2 g2) u9 us9) : zV true (L, xs) kL_law 0 o 1004 [.ref (0), .ref (1), .ref (117), .ref (145), .int (nI i), .null, .null] [] (zm μ g) u us := by
  refine z_aload_n rfl rfl dL_law_1004 ?_
  refine z_aload_n rfl rfl dL_law_1005 ?_
  refine z_iload rfl dL_law_1006 ?_
  refine z_iconst (nI 1) (by decide) dL_law_1008 ?_
  refine m_addN dL_law_1009 ?_
  refine m_sld (i + 1) (by omega) (by omega) dL_law_1010 ?_
  refine z_aload_n rfl rfl dL_law_1011 ?_
  refine z_iload rfl dL_law_1012 ?_
  refine z_iconst (nI 2) (by decide) dL_law_1014 ?_
  refine m_addN dL_law_1015 ?_
  refine m_sld (i + 2) (by omega) (by omega) dL_law_1016 ?_
  refine z_aload_n rfl rfl dL_law_1017 ?_
  refine z_iload rfl dL_law_1018 ?_
  refine z_iconst (nI 3) (by decide) dL_law_1020 ?_
  refine m_addN dL_law_1021 ?_
  refine m_sld (i + 3) (by omega) (by omega) dL_law_1022 ?_
  refine z_aload_n rfl rfl dL_law_1023 ?_
  refine z_callSX (as := [.ref (1), .int (xs (i + 1)), .int (xs (i + 2)), .int (xs (i + 3)), .ref (145)]) (wA_lose c1) ko_L_lose kl_L_138 rfl rfl ⟨by decide, by decide, by show u + 4 ≤ 601024; omega, by show us + 24 ≤ 7293034; omega⟩ (Nat.le_of_ble_eq_true rfl) rfl dL_law_1024 ?_
  refine z_istore (by decide) rfl dL_law_1027 ?_
  refine z_aload_n rfl rfl dL_law_1029 ?_
  refine z_aload_n rfl rfl dL_law_1030 ?_
  refine z_iload rfl dL_law_1031 ?_
  refine z_iconst (nI 1) (by decide) dL_law_1033 ?_
  refine m_addN dL_law_1034 ?_
  refine m_sld (i + 1) (by omega) (by omega) dL_law_1035 ?_
  refine z_aload_n rfl rfl dL_law_1036 ?_
  refine z_iload rfl dL_law_1037 ?_
  refine z_iconst (nI 2) (by decide) dL_law_1039 ?_
  refine m_addN dL_law_1040 ?_
  refine m_sld (i + 2) (by omega) (by omega) dL_law_1041 ?_
  refine z_aload_n rfl rfl dL_law_1042 ?_
  refine z_iload rfl dL_law_1043 ?_
  refine z_iconst (nI 3) (by decide) dL_law_1045 ?_
  refine m_addN dL_law_1046 ?_
  refine m_sld (i + 3) (by omega) (by omega) dL_law_1047 ?_
  refine z_callV (as := [.int (xs (i + 1)), .int (xs (i + 2)), .int (xs (i + 3))]) (c2 _) ko_X8_lose kl_L_140 rfl (zl_a rfl rfl) rfl rfl ⟨by decide, by decide, by show u + 4 ≤ 601024; omega, by show us + 24 ≤ 7293034; omega⟩ (Nat.le_of_ble_eq_true rfl) rfl dL_law_1048 ?_
  refine z_istore (by decide) rfl dL_law_1051 ?_
  refine z_aload_n rfl rfl dL_law_1053 ?_
  refine z_callV (as := []) (ct_thr c3) ko_X8_thrown kl_L_99 rfl (zl_a rfl rfl) rfl rfl ⟨by decide, by decide, by show u + 4 ≤ 601024; omega, by show us + 24 ≤ 7293034; omega⟩ (Nat.le_of_ble_eq_true rfl) rfl dL_law_1054 ?_
  refine z_iload rfl dL_law_1057 ?_
  refine z_icmp_eq 1064 (by decide) dL_law_1059 (fun _ => ?_) (fun h => absurd h (by decide))
  refine z_iload rfl dL_law_1064 ?_
  refine z_if_ne 1081 (by decide) dL_law_1066 (fun _ => ?_) (fun h => absurd h (by decide))
  refine z_goto 1835 (by decide) dL_law_1081 ?_
  refine z_fgt [.ref (0), .ref (1), .ref (117), .ref (145), .int (nI i), .null, .null] ⟨Or.inl rfl, ⟨Or.inl rfl, ⟨Or.inl rfl, ⟨Or.inl rfl, ⟨Or.inl rfl, ⟨Or.inr rfl, ⟨Or.inr rfl, trivial⟩⟩⟩⟩⟩⟩⟩ ?_
  exact kk _ _ _ (by show u + 4 ≤ u + 8; omega) (by show us + 24 ≤ us + 40; omega)
set_option maxRecDepth 100000 in
set_option maxHeartbeats 4000000 in
theorem lk_paint_ok {L i u us : Nat} {xs : Nat → Int32} {μ μ1 μ2 : zMu} {g : Int64} {v : Int32} {o : zO} (hi : i + 6 ≤ L) (hL : L ≤ 3072) (hu : u + 8 ≤ 601024) (hus : us + 40 ≤ 7293034) (c1 : zCt (L, xs) kX7_paint [.ref (1), .int (xs (i + 1)), .int (xs (i + 2))] (zm μ g) (.inl (some (.int v)), zm μ1 g)) (c2 : ∀ g9, zCt (L, xs) kX8_paint [.ref (117), .int (xs (i + 1)), .int (xs (i + 2))] (zm μ1 g9) (.inl (some (.int v)), zm μ2 g9)) (c3 : μ2 117 0 = nI 0) (kk : ∀ g2 u9 us9, u9 ≤ u + 8 → us9 ≤ us + 40 → zV true (L, xs) kL_law 0 o 1835 [.ref (0), .ref (1), .ref (117), .ref (145), .int (nI i), .null, .null] [] (zm μ2 g2) u9 us9) : zV true (L, xs) kL_law 0 o 1084 [.ref (0), .ref (1), .ref (117), .ref (145), .int (nI i), .null, .null] [] (zm μ g) u us := by
  refine z_aload_n rfl rfl dL_law_1084 ?_
  refine z_aload_n rfl rfl dL_law_1085 ?_
  refine z_iload rfl dL_law_1086 ?_
  refine z_iconst (nI 1) (by decide) dL_law_1088 ?_
  refine m_addN dL_law_1089 ?_
  refine m_sld (i + 1) (by omega) (by omega) dL_law_1090 ?_
  refine z_aload_n rfl rfl dL_law_1091 ?_
  refine z_iload rfl dL_law_1092 ?_
  refine z_iconst (nI 2) (by decide) dL_law_1094 ?_
  refine m_addN dL_law_1095 ?_
  refine m_sld (i + 2) (by omega) (by omega) dL_law_1096 ?_
  refine z_aload_n rfl rfl dL_law_1097 ?_
  refine z_callSX (as := [.ref (1), .int (xs (i + 1)), .int (xs (i + 2)), .ref (145)]) (w_paint c1) ko_L_paint kl_L_141 rfl rfl ⟨by decide, by decide, by show u + 2 ≤ 601024; omega, by show us + 12 ≤ 7293034; omega⟩ (Nat.le_of_ble_eq_true rfl) rfl dL_law_1098 ?_
  refine z_istore (by decide) rfl dL_law_1101 ?_
  refine z_aload_n rfl rfl dL_law_1103 ?_
  refine z_aload_n rfl rfl dL_law_1104 ?_
  refine z_iload rfl dL_law_1105 ?_
  refine z_iconst (nI 1) (by decide) dL_law_1107 ?_
  refine m_addN dL_law_1108 ?_
  refine m_sld (i + 1) (by omega) (by omega) dL_law_1109 ?_
  refine z_aload_n rfl rfl dL_law_1110 ?_
  refine z_iload rfl dL_law_1111 ?_
  refine z_iconst (nI 2) (by decide) dL_law_1113 ?_
  refine m_addN dL_law_1114 ?_
  refine m_sld (i + 2) (by omega) (by omega) dL_law_1115 ?_
  refine z_callV (as := [.int (xs (i + 1)), .int (xs (i + 2))]) (c2 _) ko_X8_paint kl_L_143 rfl (zl_a rfl rfl) rfl rfl ⟨by decide, by decide, by show u + 2 ≤ 601024; omega, by show us + 12 ≤ 7293034; omega⟩ (Nat.le_of_ble_eq_true rfl) rfl dL_law_1116 ?_
  refine z_istore (by decide) rfl dL_law_1119 ?_
  refine z_aload_n rfl rfl dL_law_1121 ?_
  refine z_callV (as := []) (ct_thr c3) ko_X8_thrown kl_L_99 rfl (zl_a rfl rfl) rfl rfl ⟨by decide, by decide, by show u + 2 ≤ 601024; omega, by show us + 12 ≤ 7293034; omega⟩ (Nat.le_of_ble_eq_true rfl) rfl dL_law_1122 ?_
  refine z_iload rfl dL_law_1125 ?_
  refine z_icmp_eq 1132 (by decide) dL_law_1127 (fun _ => ?_) (fun h => absurd h (by decide))
  refine z_iload rfl dL_law_1132 ?_
  refine z_if_ne 1156 (by decide) dL_law_1134 (fun h => absurd h (by decide)) (fun _ => ?_)
  refine z_aload_n rfl rfl dL_law_1137 ?_
  refine z_iconst (nI 0) (by decide) dL_law_1138 ?_
  refine z_lald (zl_a rfl rfl) (vp_in_nI (by decide) (by decide)) dL_law_1139 ?_
  refine z_iload rfl dL_law_1140 ?_
  refine z_if_eq 1149 (by decide) dL_law_1142 (fun h1 => ?_) (fun h2 => ?_)
  · refine z_lconst 0 rfl dL_law_1149 ?_
    refine z_lcmp dL_law_1150 ?_
    refine m_eqv (w := nI 0) ((by first | (rw [if_pos h1]; rfl) | (rw [if_neg h1]; rfl))) ?_
    refine z_if_eq 1156 (by decide) dL_law_1151 (fun _ => ?_) (fun h => absurd h (by decide))
    refine z_goto 1835 (by decide) dL_law_1156 ?_
    refine z_fgt [.ref (0), .ref (1), .ref (117), .ref (145), .int (nI i), .null, .null] ⟨Or.inl rfl, ⟨Or.inl rfl, ⟨Or.inl rfl, ⟨Or.inl rfl, ⟨Or.inl rfl, ⟨Or.inr rfl, ⟨Or.inr rfl, trivial⟩⟩⟩⟩⟩⟩⟩ ?_
    exact kk _ _ _ (by show u + 2 ≤ u + 8; omega) (by show us + 12 ≤ us + 40; omega)
  · refine z_lconst 1 rfl dL_law_1145 ?_
    refine z_goto 1150 (by decide) dL_law_1146 ?_
    refine z_lcmp dL_law_1150 ?_
    refine m_eqv (w := nI 0) ((by first | (rw [if_pos h2]; rfl) | (rw [if_neg h2]; rfl))) ?_
    refine z_if_eq 1156 (by decide) dL_law_1151 (fun _ => ?_) (fun h => absurd h (by decide))
    refine z_goto 1835 (by decide) dL_law_1156 ?_
    refine z_fgt [.ref (0), .ref (1), .ref (117), .ref (145), .int (nI i), .null, .null] ⟨Or.inl rfl, ⟨Or.inl rfl, ⟨Or.inl rfl, ⟨Or.inl rfl, ⟨Or.inl rfl, ⟨Or.inr rfl, ⟨Or.inr rfl, trivial⟩⟩⟩⟩⟩⟩⟩ ?_
    exact kk _ _ _ (by show u + 2 ≤ u + 8; omega) (by show us + 12 ≤ us + 40; omega)
set_option maxRecDepth 100000 in
set_option maxHeartbeats 4000000 in
theorem lk_paint_I {L i u us : Nat} {xs : Nat → Int32} {μ μ1 μ2 : zMu} {g : Int64} {w : Int32} {o : zO} (hi : i + 6 ≤ L) (hL : L ≤ 3072) (hu : u + 8 ≤ 601024) (hus : us + 40 ≤ 7293034) (c1 : zCt (L, xs) kX7_paint [.ref (1), .int (xs (i + 1)), .int (xs (i + 2))] (zm μ g) (.inr xI, zm μ g)) (c2 : ∀ g9, zCt (L, xs) kX8_paint [.ref (117), .int (xs (i + 1)), .int (xs (i + 2))] (zm μ g9) (.inl (some (.int w)), zm μ2 g9)) (c3 : μ2 117 0 = nI 1) (kk : ∀ g2 u9 us9, u9 ≤ u + 8 → us9 ≤ us + 40 → zV true (L, xs) kL_law 0 o 1835 [.ref (0), .ref (1), .ref (117), .ref (145), .int (nI i), .null, .null] [] (zm μ2 g2) u9 us9) : zV true (L, xs) kL_law 0 o 1084 [.ref (0), .ref (1), .ref (117), .ref (145), .int (nI i), .null, .null] [] (zm μ g) u us := by
  refine z_aload_n rfl rfl dL_law_1084 ?_
  refine z_aload_n rfl rfl dL_law_1085 ?_
  refine z_iload rfl dL_law_1086 ?_
  refine z_iconst (nI 1) (by decide) dL_law_1088 ?_
  refine m_addN dL_law_1089 ?_
  refine m_sld (i + 1) (by omega) (by omega) dL_law_1090 ?_
  refine z_aload_n rfl rfl dL_law_1091 ?_
  refine z_iload rfl dL_law_1092 ?_
  refine z_iconst (nI 2) (by decide) dL_law_1094 ?_
  refine m_addN dL_law_1095 ?_
  refine m_sld (i + 2) (by omega) (by omega) dL_law_1096 ?_
  refine z_aload_n rfl rfl dL_law_1097 ?_
  refine z_callSX (as := [.ref (1), .int (xs (i + 1)), .int (xs (i + 2)), .ref (145)]) (wI_paint c1) ko_L_paint kl_L_141 rfl rfl ⟨by decide, by decide, by show u + 2 ≤ 601024; omega, by show us + 12 ≤ 7293034; omega⟩ (Nat.le_of_ble_eq_true rfl) rfl dL_law_1098 ?_
  refine z_istore (by decide) rfl dL_law_1101 ?_
  refine z_aload_n rfl rfl dL_law_1103 ?_
  refine z_aload_n rfl rfl dL_law_1104 ?_
  refine z_iload rfl dL_law_1105 ?_
  refine z_iconst (nI 1) (by decide) dL_law_1107 ?_
  refine m_addN dL_law_1108 ?_
  refine m_sld (i + 1) (by omega) (by omega) dL_law_1109 ?_
  refine z_aload_n rfl rfl dL_law_1110 ?_
  refine z_iload rfl dL_law_1111 ?_
  refine z_iconst (nI 2) (by decide) dL_law_1113 ?_
  refine m_addN dL_law_1114 ?_
  refine m_sld (i + 2) (by omega) (by omega) dL_law_1115 ?_
  refine z_callV (as := [.int (xs (i + 1)), .int (xs (i + 2))]) (c2 _) ko_X8_paint kl_L_143 rfl (zl_a rfl rfl) rfl rfl ⟨by decide, by decide, by show u + 2 ≤ 601024; omega, by show us + 12 ≤ 7293034; omega⟩ (Nat.le_of_ble_eq_true rfl) rfl dL_law_1116 ?_
  refine z_istore (by decide) rfl dL_law_1119 ?_
  refine z_aload_n rfl rfl dL_law_1121 ?_
  refine z_callV (as := []) (ct_thr c3) ko_X8_thrown kl_L_99 rfl (zl_a rfl rfl) rfl rfl ⟨by decide, by decide, by show u + 2 ≤ 601024; omega, by show us + 12 ≤ 7293034; omega⟩ (Nat.le_of_ble_eq_true rfl) rfl dL_law_1122 ?_
  refine z_iload rfl dL_law_1125 ?_
  refine z_icmp_eq 1132 (by decide) dL_law_1127 (fun _ => ?_) (fun h => absurd h (by decide))
  refine z_iload rfl dL_law_1132 ?_
  refine z_if_ne 1156 (by decide) dL_law_1134 (fun _ => ?_) (fun h => absurd h (by decide))
  refine z_goto 1835 (by decide) dL_law_1156 ?_
  refine z_fgt [.ref (0), .ref (1), .ref (117), .ref (145), .int (nI i), .null, .null] ⟨Or.inl rfl, ⟨Or.inl rfl, ⟨Or.inl rfl, ⟨Or.inl rfl, ⟨Or.inl rfl, ⟨Or.inr rfl, ⟨Or.inr rfl, trivial⟩⟩⟩⟩⟩⟩⟩ ?_
  exact kk _ _ _ (by show u + 2 ≤ u + 8; omega) (by show us + 12 ≤ us + 40; omega)
set_option maxRecDepth 100000 in
set_option maxHeartbeats 4000000 in
theorem lk_told1_ok {L i u us : Nat} {xs : Nat → Int32} {μ μ1 μ2 : zMu} {g : Int64} {v : Int32} {o : zO} (hi : i + 6 ≤ L) (hL : L ≤ 3072) (hu : u + 8 ≤ 601024) (hus : us + 40 ≤ 7293034) (hb : ¬ xs (i + 2) = 0) (c1 : zCt (L, xs) kX7_told [.ref (1), .int (xs (i + 1)), .int (nI 1)] (zm μ g) (.inl (some (.int v)), zm μ1 g)) (c2 : ∀ g9, zCt (L, xs) kX8_told [.ref (117), .int (xs (i + 1)), .int (nI 1)] (zm μ1 g9) (.inl (some (.int v)), zm μ2 g9)) (c3 : μ2 117 0 = nI 0) (kk : ∀ g2 u9 us9, u9 ≤ u + 8 → us9 ≤ us + 40 → zV true (L, xs) kL_law 0 o 1835 [.ref (0), .ref (1), .ref (117), .ref (145), .int (nI i), .null, .null] [] (zm μ2 g2) u9 us9) : zV true (L, xs) kL_law 0 o 1159 [.ref (0), .ref (1), .ref (117), .ref (145), .int (nI i), .null, .null] [] (zm μ g) u us := by
  refine z_aload_n rfl rfl dL_law_1159 ?_
  refine z_aload_n rfl rfl dL_law_1160 ?_
  refine z_iload rfl dL_law_1161 ?_
  refine z_iconst (nI 1) (by decide) dL_law_1163 ?_
  refine m_addN dL_law_1164 ?_
  refine m_sld (i + 1) (by omega) (by omega) dL_law_1165 ?_
  refine z_aload_n rfl rfl dL_law_1166 ?_
  refine z_iload rfl dL_law_1167 ?_
  refine z_iconst (nI 2) (by decide) dL_law_1169 ?_
  refine m_addN dL_law_1170 ?_
  refine m_sld (i + 2) (by omega) (by omega) dL_law_1171 ?_
  refine z_if_eq 1179 (by decide) dL_law_1172 (fun h1 => ?_) (fun h2 => ?_)
  · exact absurd h1 hb
  · refine z_iconst (nI 1) (by decide) dL_law_1175 ?_
    refine z_goto 1180 (by decide) dL_law_1176 ?_
    refine z_aload_n rfl rfl dL_law_1180 ?_
    refine z_callSX (as := [.ref (1), .int (xs (i + 1)), .int (nI 1), .ref (145)]) (w_told c1) ko_L_told kl_L_144 rfl rfl ⟨by decide, by decide, by show u + 1 ≤ 601024; omega, by show us + 6 ≤ 7293034; omega⟩ (Nat.le_of_ble_eq_true rfl) rfl dL_law_1181 ?_
    refine z_istore (by decide) rfl dL_law_1184 ?_
    refine z_aload_n rfl rfl dL_law_1186 ?_
    refine z_aload_n rfl rfl dL_law_1187 ?_
    refine z_iload rfl dL_law_1188 ?_
    refine z_iconst (nI 1) (by decide) dL_law_1190 ?_
    refine m_addN dL_law_1191 ?_
    refine m_sld (i + 1) (by omega) (by omega) dL_law_1192 ?_
    refine z_aload_n rfl rfl dL_law_1193 ?_
    refine z_iload rfl dL_law_1194 ?_
    refine z_iconst (nI 2) (by decide) dL_law_1196 ?_
    refine m_addN dL_law_1197 ?_
    refine m_sld (i + 2) (by omega) (by omega) dL_law_1198 ?_
    refine z_if_eq 1206 (by decide) dL_law_1199 (fun h3 => ?_) (fun h4 => ?_)
    · exact absurd h3 hb
    · refine z_iconst (nI 1) (by decide) dL_law_1202 ?_
      refine z_goto 1207 (by decide) dL_law_1203 ?_
      refine z_callV (as := [.int (xs (i + 1)), .int (nI 1)]) (c2 _) ko_X8_told kl_L_147 rfl (zl_a rfl rfl) rfl rfl ⟨by decide, by decide, by show u + 1 ≤ 601024; omega, by show us + 6 ≤ 7293034; omega⟩ (Nat.le_of_ble_eq_true rfl) rfl dL_law_1207 ?_
      refine z_istore (by decide) rfl dL_law_1210 ?_
      refine z_aload_n rfl rfl dL_law_1212 ?_
      refine z_callV (as := []) (ct_thr c3) ko_X8_thrown kl_L_99 rfl (zl_a rfl rfl) rfl rfl ⟨by decide, by decide, by show u + 1 ≤ 601024; omega, by show us + 6 ≤ 7293034; omega⟩ (Nat.le_of_ble_eq_true rfl) rfl dL_law_1213 ?_
      refine z_iload rfl dL_law_1216 ?_
      refine z_icmp_eq 1223 (by decide) dL_law_1218 (fun _ => ?_) (fun h => absurd h (by decide))
      refine z_iload rfl dL_law_1223 ?_
      refine z_if_ne 1240 (by decide) dL_law_1225 (fun h => absurd h (by decide)) (fun _ => ?_)
      refine z_aload_n rfl rfl dL_law_1228 ?_
      refine z_iconst (nI 0) (by decide) dL_law_1229 ?_
      refine z_lald (zl_a rfl rfl) (vp_in_nI (by decide) (by decide)) dL_law_1230 ?_
      refine z_iload rfl dL_law_1231 ?_
      refine z_i2l dL_law_1233 ?_
      refine z_lcmp dL_law_1234 ?_
      refine m_eqv (w := nI 0) (lg_self _) ?_
      refine z_if_eq 1240 (by decide) dL_law_1235 (fun _ => ?_) (fun h => absurd h (by decide))
      refine z_goto 1835 (by decide) dL_law_1240 ?_
      refine z_fgt [.ref (0), .ref (1), .ref (117), .ref (145), .int (nI i), .null, .null] ⟨Or.inl rfl, ⟨Or.inl rfl, ⟨Or.inl rfl, ⟨Or.inl rfl, ⟨Or.inl rfl, ⟨Or.inr rfl, ⟨Or.inr rfl, trivial⟩⟩⟩⟩⟩⟩⟩ ?_
      exact kk _ _ _ (by show u + 1 ≤ u + 8; omega) (by show us + 6 ≤ us + 40; omega)
set_option maxRecDepth 100000 in
set_option maxHeartbeats 4000000 in
theorem lk_told1_I {L i u us : Nat} {xs : Nat → Int32} {μ μ1 μ2 : zMu} {g : Int64} {w : Int32} {o : zO} (hi : i + 6 ≤ L) (hL : L ≤ 3072) (hu : u + 8 ≤ 601024) (hus : us + 40 ≤ 7293034) (hb : ¬ xs (i + 2) = 0) (c1 : zCt (L, xs) kX7_told [.ref (1), .int (xs (i + 1)), .int (nI 1)] (zm μ g) (.inr xI, zm μ g)) (c2 : ∀ g9, zCt (L, xs) kX8_told [.ref (117), .int (xs (i + 1)), .int (nI 1)] (zm μ g9) (.inl (some (.int w)), zm μ2 g9)) (c3 : μ2 117 0 = nI 1) (kk : ∀ g2 u9 us9, u9 ≤ u + 8 → us9 ≤ us + 40 → zV true (L, xs) kL_law 0 o 1835 [.ref (0), .ref (1), .ref (117), .ref (145), .int (nI i), .null, .null] [] (zm μ2 g2) u9 us9) : zV true (L, xs) kL_law 0 o 1159 [.ref (0), .ref (1), .ref (117), .ref (145), .int (nI i), .null, .null] [] (zm μ g) u us := by
  refine z_aload_n rfl rfl dL_law_1159 ?_
  refine z_aload_n rfl rfl dL_law_1160 ?_
  refine z_iload rfl dL_law_1161 ?_
  refine z_iconst (nI 1) (by decide) dL_law_1163 ?_
  refine m_addN dL_law_1164 ?_
  refine m_sld (i + 1) (by omega) (by omega) dL_law_1165 ?_
  refine z_aload_n rfl rfl dL_law_1166 ?_
  refine z_iload rfl dL_law_1167 ?_
  refine z_iconst (nI 2) (by decide) dL_law_1169 ?_
  refine m_addN dL_law_1170 ?_
  refine m_sld (i + 2) (by omega) (by omega) dL_law_1171 ?_
  refine z_if_eq 1179 (by decide) dL_law_1172 (fun h1 => ?_) (fun h2 => ?_)
  · exact absurd h1 hb
  · refine z_iconst (nI 1) (by decide) dL_law_1175 ?_
    refine z_goto 1180 (by decide) dL_law_1176 ?_
    refine z_aload_n rfl rfl dL_law_1180 ?_
    refine z_callSX (as := [.ref (1), .int (xs (i + 1)), .int (nI 1), .ref (145)]) (wI_told c1) ko_L_told kl_L_144 rfl rfl ⟨by decide, by decide, by show u + 1 ≤ 601024; omega, by show us + 6 ≤ 7293034; omega⟩ (Nat.le_of_ble_eq_true rfl) rfl dL_law_1181 ?_
    refine z_istore (by decide) rfl dL_law_1184 ?_
    refine z_aload_n rfl rfl dL_law_1186 ?_
    refine z_aload_n rfl rfl dL_law_1187 ?_
    refine z_iload rfl dL_law_1188 ?_
    refine z_iconst (nI 1) (by decide) dL_law_1190 ?_
    refine m_addN dL_law_1191 ?_
    refine m_sld (i + 1) (by omega) (by omega) dL_law_1192 ?_
    refine z_aload_n rfl rfl dL_law_1193 ?_
    refine z_iload rfl dL_law_1194 ?_
    refine z_iconst (nI 2) (by decide) dL_law_1196 ?_
    refine m_addN dL_law_1197 ?_
    refine m_sld (i + 2) (by omega) (by omega) dL_law_1198 ?_
    refine z_if_eq 1206 (by decide) dL_law_1199 (fun h3 => ?_) (fun h4 => ?_)
    · exact absurd h3 hb
    · refine z_iconst (nI 1) (by decide) dL_law_1202 ?_
      refine z_goto 1207 (by decide) dL_law_1203 ?_
      refine z_callV (as := [.int (xs (i + 1)), .int (nI 1)]) (c2 _) ko_X8_told kl_L_147 rfl (zl_a rfl rfl) rfl rfl ⟨by decide, by decide, by show u + 1 ≤ 601024; omega, by show us + 6 ≤ 7293034; omega⟩ (Nat.le_of_ble_eq_true rfl) rfl dL_law_1207 ?_
      refine z_istore (by decide) rfl dL_law_1210 ?_
      refine z_aload_n rfl rfl dL_law_1212 ?_
      refine z_callV (as := []) (ct_thr c3) ko_X8_thrown kl_L_99 rfl (zl_a rfl rfl) rfl rfl ⟨by decide, by decide, by show u + 1 ≤ 601024; omega, by show us + 6 ≤ 7293034; omega⟩ (Nat.le_of_ble_eq_true rfl) rfl dL_law_1213 ?_
      refine z_iload rfl dL_law_1216 ?_
      refine z_icmp_eq 1223 (by decide) dL_law_1218 (fun _ => ?_) (fun h => absurd h (by decide))
      refine z_iload rfl dL_law_1223 ?_
      refine z_if_ne 1240 (by decide) dL_law_1225 (fun _ => ?_) (fun h => absurd h (by decide))
      refine z_goto 1835 (by decide) dL_law_1240 ?_
      refine z_fgt [.ref (0), .ref (1), .ref (117), .ref (145), .int (nI i), .null, .null] ⟨Or.inl rfl, ⟨Or.inl rfl, ⟨Or.inl rfl, ⟨Or.inl rfl, ⟨Or.inl rfl, ⟨Or.inr rfl, ⟨Or.inr rfl, trivial⟩⟩⟩⟩⟩⟩⟩ ?_
      exact kk _ _ _ (by show u + 1 ≤ u + 8; omega) (by show us + 6 ≤ us + 40; omega)
set_option maxRecDepth 100000 in
set_option maxHeartbeats 4000000 in
theorem lk_told0_ok {L i u us : Nat} {xs : Nat → Int32} {μ μ1 μ2 : zMu} {g : Int64} {v : Int32} {o : zO} (hi : i + 6 ≤ L) (hL : L ≤ 3072) (hu : u + 8 ≤ 601024) (hus : us + 40 ≤ 7293034) (hb : xs (i + 2) = 0) (c1 : zCt (L, xs) kX7_told [.ref (1), .int (xs (i + 1)), .int (nI 0)] (zm μ g) (.inl (some (.int v)), zm μ1 g)) (c2 : ∀ g9, zCt (L, xs) kX8_told [.ref (117), .int (xs (i + 1)), .int (nI 0)] (zm μ1 g9) (.inl (some (.int v)), zm μ2 g9)) (c3 : μ2 117 0 = nI 0) (kk : ∀ g2 u9 us9, u9 ≤ u + 8 → us9 ≤ us + 40 → zV true (L, xs) kL_law 0 o 1835 [.ref (0), .ref (1), .ref (117), .ref (145), .int (nI i), .null, .null] [] (zm μ2 g2) u9 us9) : zV true (L, xs) kL_law 0 o 1159 [.ref (0), .ref (1), .ref (117), .ref (145), .int (nI i), .null, .null] [] (zm μ g) u us := by
  refine z_aload_n rfl rfl dL_law_1159 ?_
  refine z_aload_n rfl rfl dL_law_1160 ?_
  refine z_iload rfl dL_law_1161 ?_
  refine z_iconst (nI 1) (by decide) dL_law_1163 ?_
  refine m_addN dL_law_1164 ?_
  refine m_sld (i + 1) (by omega) (by omega) dL_law_1165 ?_
  refine z_aload_n rfl rfl dL_law_1166 ?_
  refine z_iload rfl dL_law_1167 ?_
  refine z_iconst (nI 2) (by decide) dL_law_1169 ?_
  refine m_addN dL_law_1170 ?_
  refine m_sld (i + 2) (by omega) (by omega) dL_law_1171 ?_
  refine z_if_eq 1179 (by decide) dL_law_1172 (fun h1 => ?_) (fun h2 => ?_)
  · refine z_iconst (nI 0) (by decide) dL_law_1179 ?_
    refine z_aload_n rfl rfl dL_law_1180 ?_
    refine z_callSX (as := [.ref (1), .int (xs (i + 1)), .int (nI 0), .ref (145)]) (w_told c1) ko_L_told kl_L_144 rfl rfl ⟨by decide, by decide, by show u + 1 ≤ 601024; omega, by show us + 6 ≤ 7293034; omega⟩ (Nat.le_of_ble_eq_true rfl) rfl dL_law_1181 ?_
    refine z_istore (by decide) rfl dL_law_1184 ?_
    refine z_aload_n rfl rfl dL_law_1186 ?_
    refine z_aload_n rfl rfl dL_law_1187 ?_
    refine z_iload rfl dL_law_1188 ?_
    refine z_iconst (nI 1) (by decide) dL_law_1190 ?_
    refine m_addN dL_law_1191 ?_
    refine m_sld (i + 1) (by omega) (by omega) dL_law_1192 ?_
    refine z_aload_n rfl rfl dL_law_1193 ?_
    refine z_iload rfl dL_law_1194 ?_
    refine z_iconst (nI 2) (by decide) dL_law_1196 ?_
    refine m_addN dL_law_1197 ?_
    refine m_sld (i + 2) (by omega) (by omega) dL_law_1198 ?_
    refine z_if_eq 1206 (by decide) dL_law_1199 (fun h3 => ?_) (fun h4 => ?_)
    · refine z_iconst (nI 0) (by decide) dL_law_1206 ?_
      refine z_callV (as := [.int (xs (i + 1)), .int (nI 0)]) (c2 _) ko_X8_told kl_L_147 rfl (zl_a rfl rfl) rfl rfl ⟨by decide, by decide, by show u + 1 ≤ 601024; omega, by show us + 6 ≤ 7293034; omega⟩ (Nat.le_of_ble_eq_true rfl) rfl dL_law_1207 ?_
      refine z_istore (by decide) rfl dL_law_1210 ?_
      refine z_aload_n rfl rfl dL_law_1212 ?_
      refine z_callV (as := []) (ct_thr c3) ko_X8_thrown kl_L_99 rfl (zl_a rfl rfl) rfl rfl ⟨by decide, by decide, by show u + 1 ≤ 601024; omega, by show us + 6 ≤ 7293034; omega⟩ (Nat.le_of_ble_eq_true rfl) rfl dL_law_1213 ?_
      refine z_iload rfl dL_law_1216 ?_
      refine z_icmp_eq 1223 (by decide) dL_law_1218 (fun _ => ?_) (fun h => absurd h (by decide))
      refine z_iload rfl dL_law_1223 ?_
      refine z_if_ne 1240 (by decide) dL_law_1225 (fun h => absurd h (by decide)) (fun _ => ?_)
      refine z_aload_n rfl rfl dL_law_1228 ?_
      refine z_iconst (nI 0) (by decide) dL_law_1229 ?_
      refine z_lald (zl_a rfl rfl) (vp_in_nI (by decide) (by decide)) dL_law_1230 ?_
      refine z_iload rfl dL_law_1231 ?_
      refine z_i2l dL_law_1233 ?_
      refine z_lcmp dL_law_1234 ?_
      refine m_eqv (w := nI 0) (lg_self _) ?_
      refine z_if_eq 1240 (by decide) dL_law_1235 (fun _ => ?_) (fun h => absurd h (by decide))
      refine z_goto 1835 (by decide) dL_law_1240 ?_
      refine z_fgt [.ref (0), .ref (1), .ref (117), .ref (145), .int (nI i), .null, .null] ⟨Or.inl rfl, ⟨Or.inl rfl, ⟨Or.inl rfl, ⟨Or.inl rfl, ⟨Or.inl rfl, ⟨Or.inr rfl, ⟨Or.inr rfl, trivial⟩⟩⟩⟩⟩⟩⟩ ?_
      exact kk _ _ _ (by show u + 1 ≤ u + 8; omega) (by show us + 6 ≤ us + 40; omega)
    · exact absurd hb h4
  · exact absurd hb h2
set_option maxRecDepth 100000 in
set_option maxHeartbeats 4000000 in
theorem lk_told0_I {L i u us : Nat} {xs : Nat → Int32} {μ μ1 μ2 : zMu} {g : Int64} {w : Int32} {o : zO} (hi : i + 6 ≤ L) (hL : L ≤ 3072) (hu : u + 8 ≤ 601024) (hus : us + 40 ≤ 7293034) (hb : xs (i + 2) = 0) (c1 : zCt (L, xs) kX7_told [.ref (1), .int (xs (i + 1)), .int (nI 0)] (zm μ g) (.inr xI, zm μ g)) (c2 : ∀ g9, zCt (L, xs) kX8_told [.ref (117), .int (xs (i + 1)), .int (nI 0)] (zm μ g9) (.inl (some (.int w)), zm μ2 g9)) (c3 : μ2 117 0 = nI 1) (kk : ∀ g2 u9 us9, u9 ≤ u + 8 → us9 ≤ us + 40 → zV true (L, xs) kL_law 0 o 1835 [.ref (0), .ref (1), .ref (117), .ref (145), .int (nI i), .null, .null] [] (zm μ2 g2) u9 us9) : zV true (L, xs) kL_law 0 o 1159 [.ref (0), .ref (1), .ref (117), .ref (145), .int (nI i), .null, .null] [] (zm μ g) u us := by
  refine z_aload_n rfl rfl dL_law_1159 ?_
  refine z_aload_n rfl rfl dL_law_1160 ?_
  refine z_iload rfl dL_law_1161 ?_
  refine z_iconst (nI 1) (by decide) dL_law_1163 ?_
  refine m_addN dL_law_1164 ?_
  refine m_sld (i + 1) (by omega) (by omega) dL_law_1165 ?_
  refine z_aload_n rfl rfl dL_law_1166 ?_
  refine z_iload rfl dL_law_1167 ?_
  refine z_iconst (nI 2) (by decide) dL_law_1169 ?_
  refine m_addN dL_law_1170 ?_
  refine m_sld (i + 2) (by omega) (by omega) dL_law_1171 ?_
  refine z_if_eq 1179 (by decide) dL_law_1172 (fun h1 => ?_) (fun h2 => ?_)
  · refine z_iconst (nI 0) (by decide) dL_law_1179 ?_
    refine z_aload_n rfl rfl dL_law_1180 ?_
    refine z_callSX (as := [.ref (1), .int (xs (i + 1)), .int (nI 0), .ref (145)]) (wI_told c1) ko_L_told kl_L_144 rfl rfl ⟨by decide, by decide, by show u + 1 ≤ 601024; omega, by show us + 6 ≤ 7293034; omega⟩ (Nat.le_of_ble_eq_true rfl) rfl dL_law_1181 ?_
    refine z_istore (by decide) rfl dL_law_1184 ?_
    refine z_aload_n rfl rfl dL_law_1186 ?_
    refine z_aload_n rfl rfl dL_law_1187 ?_
    refine z_iload rfl dL_law_1188 ?_
    refine z_iconst (nI 1) (by decide) dL_law_1190 ?_
    refine m_addN dL_law_1191 ?_
    refine m_sld (i + 1) (by omega) (by omega) dL_law_1192 ?_
    refine z_aload_n rfl rfl dL_law_1193 ?_
    refine z_iload rfl dL_law_1194 ?_
    refine z_iconst (nI 2) (by decide) dL_law_1196 ?_
    refine m_addN dL_law_1197 ?_
    refine m_sld (i + 2) (by omega) (by omega) dL_law_1198 ?_
    refine z_if_eq 1206 (by decide) dL_law_1199 (fun h3 => ?_) (fun h4 => ?_)
    · refine z_iconst (nI 0) (by decide) dL_law_1206 ?_
      refine z_callV (as := [.int (xs (i + 1)), .int (nI 0)]) (c2 _) ko_X8_told kl_L_147 rfl (zl_a rfl rfl) rfl rfl ⟨by decide, by decide, by show u + 1 ≤ 601024; omega, by show us + 6 ≤ 7293034; omega⟩ (Nat.le_of_ble_eq_true rfl) rfl dL_law_1207 ?_
      refine z_istore (by decide) rfl dL_law_1210 ?_
      refine z_aload_n rfl rfl dL_law_1212 ?_
      refine z_callV (as := []) (ct_thr c3) ko_X8_thrown kl_L_99 rfl (zl_a rfl rfl) rfl rfl ⟨by decide, by decide, by show u + 1 ≤ 601024; omega, by show us + 6 ≤ 7293034; omega⟩ (Nat.le_of_ble_eq_true rfl) rfl dL_law_1213 ?_
      refine z_iload rfl dL_law_1216 ?_
      refine z_icmp_eq 1223 (by decide) dL_law_1218 (fun _ => ?_) (fun h => absurd h (by decide))
      refine z_iload rfl dL_law_1223 ?_
      refine z_if_ne 1240 (by decide) dL_law_1225 (fun _ => ?_) (fun h => absurd h (by decide))
      refine z_goto 1835 (by decide) dL_law_1240 ?_
      refine z_fgt [.ref (0), .ref (1), .ref (117), .ref (145), .int (nI i), .null, .null] ⟨Or.inl rfl, ⟨Or.inl rfl, ⟨Or.inl rfl, ⟨Or.inl rfl, ⟨Or.inl rfl, ⟨Or.inr rfl, ⟨Or.inr rfl, trivial⟩⟩⟩⟩⟩⟩⟩ ?_
      exact kk _ _ _ (by show u + 1 ≤ u + 8; omega) (by show us + 6 ≤ us + 40; omega)
    · exact absurd hb h4
  · exact absurd hb h2
set_option maxRecDepth 100000 in
set_option maxHeartbeats 4000000 in
theorem lk_at_ok {L i u us : Nat} {xs : Nat → Int32} {μ μ1 μ2 : zMu} {g : Int64} {v : Int32} {o : zO} (hi : i + 6 ≤ L) (hL : L ≤ 3072) (hu : u + 8 ≤ 601024) (hus : us + 40 ≤ 7293034) (c1 : zCt (L, xs) kX7_at [.ref (1), .int (xs (i + 1)), .int (xs (i + 2)), .int (xs (i + 3))] (zm μ g) (.inl (some (.int v)), zm μ1 g)) (c2 : ∀ g9, zCt (L, xs) kX8_at [.ref (117), .int (xs (i + 1)), .int (xs (i + 2)), .int (xs (i + 3))] (zm μ1 g9) (.inl (some (.int v)), zm μ2 g9)) (c3 : μ2 117 0 = nI 0) (kk : ∀ g2 u9 us9, u9 ≤ u + 8 → us9 ≤ us + 40 → zV true (L, xs) kL_law 0 o 1835 [.ref (0), .ref (1), .ref (117), .ref (145), .int (nI i), .null, .null] [] (zm μ2 g2) u9 us9) : zV true (L, xs) kL_law 0 o 1243 [.ref (0), .ref (1), .ref (117), .ref (145), .int (nI i), .null, .null] [] (zm μ g) u us := by
  refine z_aload_n rfl rfl dL_law_1243 ?_
  refine z_aload_n rfl rfl dL_law_1244 ?_
  refine z_iload rfl dL_law_1245 ?_
  refine z_iconst (nI 1) (by decide) dL_law_1247 ?_
  refine m_addN dL_law_1248 ?_
  refine m_sld (i + 1) (by omega) (by omega) dL_law_1249 ?_
  refine z_aload_n rfl rfl dL_law_1250 ?_
  refine z_iload rfl dL_law_1251 ?_
  refine z_iconst (nI 2) (by decide) dL_law_1253 ?_
  refine m_addN dL_law_1254 ?_
  refine m_sld (i + 2) (by omega) (by omega) dL_law_1255 ?_
  refine z_aload_n rfl rfl dL_law_1256 ?_
  refine z_iload rfl dL_law_1257 ?_
  refine z_iconst (nI 3) (by decide) dL_law_1259 ?_
  refine m_addN dL_law_1260 ?_
  refine m_sld (i + 3) (by omega) (by omega) dL_law_1261 ?_
  refine z_aload_n rfl rfl dL_law_1262 ?_
  refine z_callSX (as := [.ref (1), .int (xs (i + 1)), .int (xs (i + 2)), .int (xs (i + 3)), .ref (145)]) (w_at c1) ko_L_at kl_L_148 rfl rfl ⟨by decide, by decide, by show u + 3 ≤ 601024; omega, by show us + 18 ≤ 7293034; omega⟩ (Nat.le_of_ble_eq_true rfl) rfl dL_law_1263 ?_
  refine z_istore (by decide) rfl dL_law_1266 ?_
  refine z_aload_n rfl rfl dL_law_1268 ?_
  refine z_aload_n rfl rfl dL_law_1269 ?_
  refine z_iload rfl dL_law_1270 ?_
  refine z_iconst (nI 1) (by decide) dL_law_1272 ?_
  refine m_addN dL_law_1273 ?_
  refine m_sld (i + 1) (by omega) (by omega) dL_law_1274 ?_
  refine z_aload_n rfl rfl dL_law_1275 ?_
  refine z_iload rfl dL_law_1276 ?_
  refine z_iconst (nI 2) (by decide) dL_law_1278 ?_
  refine m_addN dL_law_1279 ?_
  refine m_sld (i + 2) (by omega) (by omega) dL_law_1280 ?_
  refine z_aload_n rfl rfl dL_law_1281 ?_
  refine z_iload rfl dL_law_1282 ?_
  refine z_iconst (nI 3) (by decide) dL_law_1284 ?_
  refine m_addN dL_law_1285 ?_
  refine m_sld (i + 3) (by omega) (by omega) dL_law_1286 ?_
  refine z_callV (as := [.int (xs (i + 1)), .int (xs (i + 2)), .int (xs (i + 3))]) (c2 _) ko_X8_at kl_L_150 rfl (zl_a rfl rfl) rfl rfl ⟨by decide, by decide, by show u + 3 ≤ 601024; omega, by show us + 18 ≤ 7293034; omega⟩ (Nat.le_of_ble_eq_true rfl) rfl dL_law_1287 ?_
  refine z_istore (by decide) rfl dL_law_1290 ?_
  refine z_aload_n rfl rfl dL_law_1292 ?_
  refine z_callV (as := []) (ct_thr c3) ko_X8_thrown kl_L_99 rfl (zl_a rfl rfl) rfl rfl ⟨by decide, by decide, by show u + 3 ≤ 601024; omega, by show us + 18 ≤ 7293034; omega⟩ (Nat.le_of_ble_eq_true rfl) rfl dL_law_1293 ?_
  refine z_iload rfl dL_law_1296 ?_
  refine z_icmp_eq 1303 (by decide) dL_law_1298 (fun _ => ?_) (fun h => absurd h (by decide))
  refine z_iload rfl dL_law_1303 ?_
  refine z_if_ne 1320 (by decide) dL_law_1305 (fun h => absurd h (by decide)) (fun _ => ?_)
  refine z_aload_n rfl rfl dL_law_1308 ?_
  refine z_iconst (nI 0) (by decide) dL_law_1309 ?_
  refine z_lald (zl_a rfl rfl) (vp_in_nI (by decide) (by decide)) dL_law_1310 ?_
  refine z_iload rfl dL_law_1311 ?_
  refine z_i2l dL_law_1313 ?_
  refine z_lcmp dL_law_1314 ?_
  refine m_eqv (w := nI 0) (lg_self _) ?_
  refine z_if_eq 1320 (by decide) dL_law_1315 (fun _ => ?_) (fun h => absurd h (by decide))
  refine z_goto 1835 (by decide) dL_law_1320 ?_
  refine z_fgt [.ref (0), .ref (1), .ref (117), .ref (145), .int (nI i), .null, .null] ⟨Or.inl rfl, ⟨Or.inl rfl, ⟨Or.inl rfl, ⟨Or.inl rfl, ⟨Or.inl rfl, ⟨Or.inr rfl, ⟨Or.inr rfl, trivial⟩⟩⟩⟩⟩⟩⟩ ?_
  exact kk _ _ _ (by show u + 3 ≤ u + 8; omega) (by show us + 18 ≤ us + 40; omega)
set_option maxRecDepth 100000 in
set_option maxHeartbeats 4000000 in
theorem lk_at_I {L i u us : Nat} {xs : Nat → Int32} {μ μ1 μ2 : zMu} {g : Int64} {w : Int32} {o : zO} (hi : i + 6 ≤ L) (hL : L ≤ 3072) (hu : u + 8 ≤ 601024) (hus : us + 40 ≤ 7293034) (c1 : zCt (L, xs) kX7_at [.ref (1), .int (xs (i + 1)), .int (xs (i + 2)), .int (xs (i + 3))] (zm μ g) (.inr xI, zm μ g)) (c2 : ∀ g9, zCt (L, xs) kX8_at [.ref (117), .int (xs (i + 1)), .int (xs (i + 2)), .int (xs (i + 3))] (zm μ g9) (.inl (some (.int w)), zm μ2 g9)) (c3 : μ2 117 0 = nI 1) (kk : ∀ g2 u9 us9, u9 ≤ u + 8 → us9 ≤ us + 40 → zV true (L, xs) kL_law 0 o 1835 [.ref (0), .ref (1), .ref (117), .ref (145), .int (nI i), .null, .null] [] (zm μ2 g2) u9 us9) : zV true (L, xs) kL_law 0 o 1243 [.ref (0), .ref (1), .ref (117), .ref (145), .int (nI i), .null, .null] [] (zm μ g) u us := by
  refine z_aload_n rfl rfl dL_law_1243 ?_
  refine z_aload_n rfl rfl dL_law_1244 ?_
  refine z_iload rfl dL_law_1245 ?_
  refine z_iconst (nI 1) (by decide) dL_law_1247 ?_
  refine m_addN dL_law_1248 ?_
  refine m_sld (i + 1) (by omega) (by omega) dL_law_1249 ?_
  refine z_aload_n rfl rfl dL_law_1250 ?_
  refine z_iload rfl dL_law_1251 ?_
  refine z_iconst (nI 2) (by decide) dL_law_1253 ?_
  refine m_addN dL_law_1254 ?_
  refine m_sld (i + 2) (by omega) (by omega) dL_law_1255 ?_
  refine z_aload_n rfl rfl dL_law_1256 ?_
  refine z_iload rfl dL_law_1257 ?_
  refine z_iconst (nI 3) (by decide) dL_law_1259 ?_
  refine m_addN dL_law_1260 ?_
  refine m_sld (i + 3) (by omega) (by omega) dL_law_1261 ?_
  refine z_aload_n rfl rfl dL_law_1262 ?_
  refine z_callSX (as := [.ref (1), .int (xs (i + 1)), .int (xs (i + 2)), .int (xs (i + 3)), .ref (145)]) (wI_at c1) ko_L_at kl_L_148 rfl rfl ⟨by decide, by decide, by show u + 3 ≤ 601024; omega, by show us + 18 ≤ 7293034; omega⟩ (Nat.le_of_ble_eq_true rfl) rfl dL_law_1263 ?_
  refine z_istore (by decide) rfl dL_law_1266 ?_
  refine z_aload_n rfl rfl dL_law_1268 ?_
  refine z_aload_n rfl rfl dL_law_1269 ?_
  refine z_iload rfl dL_law_1270 ?_
  refine z_iconst (nI 1) (by decide) dL_law_1272 ?_
  refine m_addN dL_law_1273 ?_
  refine m_sld (i + 1) (by omega) (by omega) dL_law_1274 ?_
  refine z_aload_n rfl rfl dL_law_1275 ?_
  refine z_iload rfl dL_law_1276 ?_
  refine z_iconst (nI 2) (by decide) dL_law_1278 ?_
  refine m_addN dL_law_1279 ?_
  refine m_sld (i + 2) (by omega) (by omega) dL_law_1280 ?_
  refine z_aload_n rfl rfl dL_law_1281 ?_
  refine z_iload rfl dL_law_1282 ?_
  refine z_iconst (nI 3) (by decide) dL_law_1284 ?_
  refine m_addN dL_law_1285 ?_
  refine m_sld (i + 3) (by omega) (by omega) dL_law_1286 ?_
  refine z_callV (as := [.int (xs (i + 1)), .int (xs (i + 2)), .int (xs (i + 3))]) (c2 _) ko_X8_at kl_L_150 rfl (zl_a rfl rfl) rfl rfl ⟨by decide, by decide, by show u + 3 ≤ 601024; omega, by show us + 18 ≤ 7293034; omega⟩ (Nat.le_of_ble_eq_true rfl) rfl dL_law_1287 ?_
  refine z_istore (by decide) rfl dL_law_1290 ?_
  refine z_aload_n rfl rfl dL_law_1292 ?_
  refine z_callV (as := []) (ct_thr c3) ko_X8_thrown kl_L_99 rfl (zl_a rfl rfl) rfl rfl ⟨by decide, by decide, by show u + 3 ≤ 601024; omega, by show us + 18 ≤ 7293034; omega⟩ (Nat.le_of_ble_eq_true rfl) rfl dL_law_1293 ?_
  refine z_iload rfl dL_law_1296 ?_
  refine z_icmp_eq 1303 (by decide) dL_law_1298 (fun _ => ?_) (fun h => absurd h (by decide))
  refine z_iload rfl dL_law_1303 ?_
  refine z_if_ne 1320 (by decide) dL_law_1305 (fun _ => ?_) (fun h => absurd h (by decide))
  refine z_goto 1835 (by decide) dL_law_1320 ?_
  refine z_fgt [.ref (0), .ref (1), .ref (117), .ref (145), .int (nI i), .null, .null] ⟨Or.inl rfl, ⟨Or.inl rfl, ⟨Or.inl rfl, ⟨Or.inl rfl, ⟨Or.inl rfl, ⟨Or.inr rfl, ⟨Or.inr rfl, trivial⟩⟩⟩⟩⟩⟩⟩ ?_
  exact kk _ _ _ (by show u + 3 ≤ u + 8; omega) (by show us + 18 ≤ us + 40; omega)
set_option maxRecDepth 100000 in
set_option maxHeartbeats 4000000 in
theorem lk_at_A {L i u us : Nat} {xs : Nat → Int32} {μ μ1 μ2 : zMu} {g : Int64} {w : Int32} {o : zO} (hi : i + 6 ≤ L) (hL : L ≤ 3072) (hu : u + 8 ≤ 601024) (hus : us + 40 ≤ 7293034) (c1 : zCt (L, xs) kX7_at [.ref (1), .int (xs (i + 1)), .int (xs (i + 2)), .int (xs (i + 3))] (zm μ g) (.inr xA, zm μ g)) (c2 : ∀ g9, zCt (L, xs) kX8_at [.ref (117), .int (xs (i + 1)), .int (xs (i + 2)), .int (xs (i + 3))] (zm μ g9) (.inl (some (.int w)), zm μ2 g9)) (c3 : μ2 117 0 = nI 2) (kk : ∀ g2 u9 us9, u9 ≤ u + 8 → us9 ≤ us + 40 → zV true (L, xs) kL_law 0 o 1835 [.ref (0), .ref (1), .ref (117), .ref (145), .int (nI i), .null, .null] [] (zm μ2 g2) u9 us9) : zV true (L, xs) kL_law 0 o 1243 [.ref (0), .ref (1), .ref (117), .ref (145), .int (nI i), .null, .null] [] (zm μ g) u us := by
  refine z_aload_n rfl rfl dL_law_1243 ?_
  refine z_aload_n rfl rfl dL_law_1244 ?_
  refine z_iload rfl dL_law_1245 ?_
  refine z_iconst (nI 1) (by decide) dL_law_1247 ?_
  refine m_addN dL_law_1248 ?_
  refine m_sld (i + 1) (by omega) (by omega) dL_law_1249 ?_
  refine z_aload_n rfl rfl dL_law_1250 ?_
  refine z_iload rfl dL_law_1251 ?_
  refine z_iconst (nI 2) (by decide) dL_law_1253 ?_
  refine m_addN dL_law_1254 ?_
  refine m_sld (i + 2) (by omega) (by omega) dL_law_1255 ?_
  refine z_aload_n rfl rfl dL_law_1256 ?_
  refine z_iload rfl dL_law_1257 ?_
  refine z_iconst (nI 3) (by decide) dL_law_1259 ?_
  refine m_addN dL_law_1260 ?_
  refine m_sld (i + 3) (by omega) (by omega) dL_law_1261 ?_
  refine z_aload_n rfl rfl dL_law_1262 ?_
  refine z_callSX (as := [.ref (1), .int (xs (i + 1)), .int (xs (i + 2)), .int (xs (i + 3)), .ref (145)]) (wA_at c1) ko_L_at kl_L_148 rfl rfl ⟨by decide, by decide, by show u + 3 ≤ 601024; omega, by show us + 18 ≤ 7293034; omega⟩ (Nat.le_of_ble_eq_true rfl) rfl dL_law_1263 ?_
  refine z_istore (by decide) rfl dL_law_1266 ?_
  refine z_aload_n rfl rfl dL_law_1268 ?_
  refine z_aload_n rfl rfl dL_law_1269 ?_
  refine z_iload rfl dL_law_1270 ?_
  refine z_iconst (nI 1) (by decide) dL_law_1272 ?_
  refine m_addN dL_law_1273 ?_
  refine m_sld (i + 1) (by omega) (by omega) dL_law_1274 ?_
  refine z_aload_n rfl rfl dL_law_1275 ?_
  refine z_iload rfl dL_law_1276 ?_
  refine z_iconst (nI 2) (by decide) dL_law_1278 ?_
  refine m_addN dL_law_1279 ?_
  refine m_sld (i + 2) (by omega) (by omega) dL_law_1280 ?_
  refine z_aload_n rfl rfl dL_law_1281 ?_
  refine z_iload rfl dL_law_1282 ?_
  refine z_iconst (nI 3) (by decide) dL_law_1284 ?_
  refine m_addN dL_law_1285 ?_
  refine m_sld (i + 3) (by omega) (by omega) dL_law_1286 ?_
  refine z_callV (as := [.int (xs (i + 1)), .int (xs (i + 2)), .int (xs (i + 3))]) (c2 _) ko_X8_at kl_L_150 rfl (zl_a rfl rfl) rfl rfl ⟨by decide, by decide, by show u + 3 ≤ 601024; omega, by show us + 18 ≤ 7293034; omega⟩ (Nat.le_of_ble_eq_true rfl) rfl dL_law_1287 ?_
  refine z_istore (by decide) rfl dL_law_1290 ?_
  refine z_aload_n rfl rfl dL_law_1292 ?_
  refine z_callV (as := []) (ct_thr c3) ko_X8_thrown kl_L_99 rfl (zl_a rfl rfl) rfl rfl ⟨by decide, by decide, by show u + 3 ≤ 601024; omega, by show us + 18 ≤ 7293034; omega⟩ (Nat.le_of_ble_eq_true rfl) rfl dL_law_1293 ?_
  refine z_iload rfl dL_law_1296 ?_
  refine z_icmp_eq 1303 (by decide) dL_law_1298 (fun _ => ?_) (fun h => absurd h (by decide))
  refine z_iload rfl dL_law_1303 ?_
  refine z_if_ne 1320 (by decide) dL_law_1305 (fun _ => ?_) (fun h => absurd h (by decide))
  refine z_goto 1835 (by decide) dL_law_1320 ?_
  refine z_fgt [.ref (0), .ref (1), .ref (117), .ref (145), .int (nI i), .null, .null] ⟨Or.inl rfl, ⟨Or.inl rfl, ⟨Or.inl rfl, ⟨Or.inl rfl, ⟨Or.inl rfl, ⟨Or.inr rfl, ⟨Or.inr rfl, trivial⟩⟩⟩⟩⟩⟩⟩ ?_
  exact kk _ _ _ (by show u + 3 ≤ u + 8; omega) (by show us + 18 ≤ us + 40; omega)
set_option maxRecDepth 100000 in
set_option maxHeartbeats 4000000 in
theorem lk_chain_ok {L i u us : Nat} {xs : Nat → Int32} {μ μ1 μ2 : zMu} {g : Int64} {v : Int32} {o : zO} (hi : i + 6 ≤ L) (hL : L ≤ 3072) (hu : u + 8 ≤ 601024) (hus : us + 40 ≤ 7293034) (c1 : zCt (L, xs) kX7_chain [.ref (1), .int (xs (i + 1)), .int (xs (i + 2)), .int (xs (i + 3))] (zm μ g) (.inl (some (.int v)), zm μ1 g)) (c2 : ∀ g9, zCt (L, xs) kX8_chain [.ref (117), .int (xs (i + 1)), .int (xs (i + 2)), .int (xs (i + 3))] (zm μ1 g9) (.inl (some (.int v)), zm μ2 g9)) (c3 : μ2 117 0 = nI 0) (kk : ∀ g2 u9 us9, u9 ≤ u + 8 → us9 ≤ us + 40 → zV true (L, xs) kL_law 0 o 1835 [.ref (0), .ref (1), .ref (117), .ref (145), .int (nI i), .null, .null] [] (zm μ2 g2) u9 us9) : zV true (L, xs) kL_law 0 o 1323 [.ref (0), .ref (1), .ref (117), .ref (145), .int (nI i), .null, .null] [] (zm μ g) u us := by
  refine z_aload_n rfl rfl dL_law_1323 ?_
  refine z_aload_n rfl rfl dL_law_1324 ?_
  refine z_iload rfl dL_law_1325 ?_
  refine z_iconst (nI 1) (by decide) dL_law_1327 ?_
  refine m_addN dL_law_1328 ?_
  refine m_sld (i + 1) (by omega) (by omega) dL_law_1329 ?_
  refine z_aload_n rfl rfl dL_law_1330 ?_
  refine z_iload rfl dL_law_1331 ?_
  refine z_iconst (nI 2) (by decide) dL_law_1333 ?_
  refine m_addN dL_law_1334 ?_
  refine m_sld (i + 2) (by omega) (by omega) dL_law_1335 ?_
  refine z_aload_n rfl rfl dL_law_1336 ?_
  refine z_iload rfl dL_law_1337 ?_
  refine z_iconst (nI 3) (by decide) dL_law_1339 ?_
  refine m_addN dL_law_1340 ?_
  refine m_sld (i + 3) (by omega) (by omega) dL_law_1341 ?_
  refine z_aload_n rfl rfl dL_law_1342 ?_
  refine z_callSX (as := [.ref (1), .int (xs (i + 1)), .int (xs (i + 2)), .int (xs (i + 3)), .ref (145)]) (w_chain c1) ko_L_chain kl_L_151 rfl rfl ⟨by decide, by decide, by show u + 3 ≤ 601024; omega, by show us + 18 ≤ 7293034; omega⟩ (Nat.le_of_ble_eq_true rfl) rfl dL_law_1343 ?_
  refine z_istore (by decide) rfl dL_law_1346 ?_
  refine z_aload_n rfl rfl dL_law_1348 ?_
  refine z_aload_n rfl rfl dL_law_1349 ?_
  refine z_iload rfl dL_law_1350 ?_
  refine z_iconst (nI 1) (by decide) dL_law_1352 ?_
  refine m_addN dL_law_1353 ?_
  refine m_sld (i + 1) (by omega) (by omega) dL_law_1354 ?_
  refine z_aload_n rfl rfl dL_law_1355 ?_
  refine z_iload rfl dL_law_1356 ?_
  refine z_iconst (nI 2) (by decide) dL_law_1358 ?_
  refine m_addN dL_law_1359 ?_
  refine m_sld (i + 2) (by omega) (by omega) dL_law_1360 ?_
  refine z_aload_n rfl rfl dL_law_1361 ?_
  refine z_iload rfl dL_law_1362 ?_
  refine z_iconst (nI 3) (by decide) dL_law_1364 ?_
  refine m_addN dL_law_1365 ?_
  refine m_sld (i + 3) (by omega) (by omega) dL_law_1366 ?_
  refine z_callV (as := [.int (xs (i + 1)), .int (xs (i + 2)), .int (xs (i + 3))]) (c2 _) ko_X8_chain kl_L_153 rfl (zl_a rfl rfl) rfl rfl ⟨by decide, by decide, by show u + 3 ≤ 601024; omega, by show us + 18 ≤ 7293034; omega⟩ (Nat.le_of_ble_eq_true rfl) rfl dL_law_1367 ?_
  refine z_istore (by decide) rfl dL_law_1370 ?_
  refine z_aload_n rfl rfl dL_law_1372 ?_
  refine z_callV (as := []) (ct_thr c3) ko_X8_thrown kl_L_99 rfl (zl_a rfl rfl) rfl rfl ⟨by decide, by decide, by show u + 3 ≤ 601024; omega, by show us + 18 ≤ 7293034; omega⟩ (Nat.le_of_ble_eq_true rfl) rfl dL_law_1373 ?_
  refine z_iload rfl dL_law_1376 ?_
  refine z_icmp_eq 1383 (by decide) dL_law_1378 (fun _ => ?_) (fun h => absurd h (by decide))
  refine z_iload rfl dL_law_1383 ?_
  refine z_if_ne 1400 (by decide) dL_law_1385 (fun h => absurd h (by decide)) (fun _ => ?_)
  refine z_aload_n rfl rfl dL_law_1388 ?_
  refine z_iconst (nI 0) (by decide) dL_law_1389 ?_
  refine z_lald (zl_a rfl rfl) (vp_in_nI (by decide) (by decide)) dL_law_1390 ?_
  refine z_iload rfl dL_law_1391 ?_
  refine z_i2l dL_law_1393 ?_
  refine z_lcmp dL_law_1394 ?_
  refine m_eqv (w := nI 0) (lg_self _) ?_
  refine z_if_eq 1400 (by decide) dL_law_1395 (fun _ => ?_) (fun h => absurd h (by decide))
  refine z_goto 1835 (by decide) dL_law_1400 ?_
  refine z_fgt [.ref (0), .ref (1), .ref (117), .ref (145), .int (nI i), .null, .null] ⟨Or.inl rfl, ⟨Or.inl rfl, ⟨Or.inl rfl, ⟨Or.inl rfl, ⟨Or.inl rfl, ⟨Or.inr rfl, ⟨Or.inr rfl, trivial⟩⟩⟩⟩⟩⟩⟩ ?_
  exact kk _ _ _ (by show u + 3 ≤ u + 8; omega) (by show us + 18 ≤ us + 40; omega)
set_option maxRecDepth 100000 in
set_option maxHeartbeats 4000000 in
theorem lk_chain_I {L i u us : Nat} {xs : Nat → Int32} {μ μ1 μ2 : zMu} {g : Int64} {w : Int32} {o : zO} (hi : i + 6 ≤ L) (hL : L ≤ 3072) (hu : u + 8 ≤ 601024) (hus : us + 40 ≤ 7293034) (c1 : zCt (L, xs) kX7_chain [.ref (1), .int (xs (i + 1)), .int (xs (i + 2)), .int (xs (i + 3))] (zm μ g) (.inr xI, zm μ g)) (c2 : ∀ g9, zCt (L, xs) kX8_chain [.ref (117), .int (xs (i + 1)), .int (xs (i + 2)), .int (xs (i + 3))] (zm μ g9) (.inl (some (.int w)), zm μ2 g9)) (c3 : μ2 117 0 = nI 1) (kk : ∀ g2 u9 us9, u9 ≤ u + 8 → us9 ≤ us + 40 → zV true (L, xs) kL_law 0 o 1835 [.ref (0), .ref (1), .ref (117), .ref (145), .int (nI i), .null, .null] [] (zm μ2 g2) u9 us9) : zV true (L, xs) kL_law 0 o 1323 [.ref (0), .ref (1), .ref (117), .ref (145), .int (nI i), .null, .null] [] (zm μ g) u us := by
  refine z_aload_n rfl rfl dL_law_1323 ?_
  refine z_aload_n rfl rfl dL_law_1324 ?_
  refine z_iload rfl dL_law_1325 ?_
  refine z_iconst (nI 1) (by decide) dL_law_1327 ?_
  refine m_addN dL_law_1328 ?_
  refine m_sld (i + 1) (by omega) (by omega) dL_law_1329 ?_
  refine z_aload_n rfl rfl dL_law_1330 ?_
  refine z_iload rfl dL_law_1331 ?_
  refine z_iconst (nI 2) (by decide) dL_law_1333 ?_
  refine m_addN dL_law_1334 ?_
  refine m_sld (i + 2) (by omega) (by omega) dL_law_1335 ?_
  refine z_aload_n rfl rfl dL_law_1336 ?_
  refine z_iload rfl dL_law_1337 ?_
  refine z_iconst (nI 3) (by decide) dL_law_1339 ?_
  refine m_addN dL_law_1340 ?_
  refine m_sld (i + 3) (by omega) (by omega) dL_law_1341 ?_
  refine z_aload_n rfl rfl dL_law_1342 ?_
  refine z_callSX (as := [.ref (1), .int (xs (i + 1)), .int (xs (i + 2)), .int (xs (i + 3)), .ref (145)]) (wI_chain c1) ko_L_chain kl_L_151 rfl rfl ⟨by decide, by decide, by show u + 3 ≤ 601024; omega, by show us + 18 ≤ 7293034; omega⟩ (Nat.le_of_ble_eq_true rfl) rfl dL_law_1343 ?_
  refine z_istore (by decide) rfl dL_law_1346 ?_
  refine z_aload_n rfl rfl dL_law_1348 ?_
  refine z_aload_n rfl rfl dL_law_1349 ?_
  refine z_iload rfl dL_law_1350 ?_
  refine z_iconst (nI 1) (by decide) dL_law_1352 ?_
  refine m_addN dL_law_1353 ?_
  refine m_sld (i + 1) (by omega) (by omega) dL_law_1354 ?_
  refine z_aload_n rfl rfl dL_law_1355 ?_
  refine z_iload rfl dL_law_1356 ?_
  refine z_iconst (nI 2) (by decide) dL_law_1358 ?_
  refine m_addN dL_law_1359 ?_
  refine m_sld (i + 2) (by omega) (by omega) dL_law_1360 ?_
  refine z_aload_n rfl rfl dL_law_1361 ?_
  refine z_iload rfl dL_law_1362 ?_
  refine z_iconst (nI 3) (by decide) dL_law_1364 ?_
  refine m_addN dL_law_1365 ?_
  refine m_sld (i + 3) (by omega) (by omega) dL_law_1366 ?_
  refine z_callV (as := [.int (xs (i + 1)), .int (xs (i + 2)), .int (xs (i + 3))]) (c2 _) ko_X8_chain kl_L_153 rfl (zl_a rfl rfl) rfl rfl ⟨by decide, by decide, by show u + 3 ≤ 601024; omega, by show us + 18 ≤ 7293034; omega⟩ (Nat.le_of_ble_eq_true rfl) rfl dL_law_1367 ?_
  refine z_istore (by decide) rfl dL_law_1370 ?_
  refine z_aload_n rfl rfl dL_law_1372 ?_
  refine z_callV (as := []) (ct_thr c3) ko_X8_thrown kl_L_99 rfl (zl_a rfl rfl) rfl rfl ⟨by decide, by decide, by show u + 3 ≤ 601024; omega, by show us + 18 ≤ 7293034; omega⟩ (Nat.le_of_ble_eq_true rfl) rfl dL_law_1373 ?_
  refine z_iload rfl dL_law_1376 ?_
  refine z_icmp_eq 1383 (by decide) dL_law_1378 (fun _ => ?_) (fun h => absurd h (by decide))
  refine z_iload rfl dL_law_1383 ?_
  refine z_if_ne 1400 (by decide) dL_law_1385 (fun _ => ?_) (fun h => absurd h (by decide))
  refine z_goto 1835 (by decide) dL_law_1400 ?_
  refine z_fgt [.ref (0), .ref (1), .ref (117), .ref (145), .int (nI i), .null, .null] ⟨Or.inl rfl, ⟨Or.inl rfl, ⟨Or.inl rfl, ⟨Or.inl rfl, ⟨Or.inl rfl, ⟨Or.inr rfl, ⟨Or.inr rfl, trivial⟩⟩⟩⟩⟩⟩⟩ ?_
  exact kk _ _ _ (by show u + 3 ≤ u + 8; omega) (by show us + 18 ≤ us + 40; omega)
set_option maxRecDepth 100000 in
set_option maxHeartbeats 4000000 in
theorem lk_of_ok {L i u us : Nat} {xs : Nat → Int32} {μ μ1 μ2 : zMu} {g : Int64} {v : Int32} {o : zO} (hi : i + 6 ≤ L) (hL : L ≤ 3072) (hu : u + 8 ≤ 601024) (hus : us + 40 ≤ 7293034) (c1 : zCt (L, xs) kX7_of [.ref (1), .int (xs (i + 1)), .int (xs (i + 2))] (zm μ g) (.inl (some (.int v)), zm μ1 g)) (c2 : ∀ g9, zCt (L, xs) kX8_of [.ref (117), .int (xs (i + 1)), .int (xs (i + 2))] (zm μ1 g9) (.inl (some (.int v)), zm μ2 g9)) (c3 : μ2 117 0 = nI 0) (kk : ∀ g2 u9 us9, u9 ≤ u + 8 → us9 ≤ us + 40 → zV true (L, xs) kL_law 0 o 1835 [.ref (0), .ref (1), .ref (117), .ref (145), .int (nI i), .null, .null] [] (zm μ2 g2) u9 us9) : zV true (L, xs) kL_law 0 o 1403 [.ref (0), .ref (1), .ref (117), .ref (145), .int (nI i), .null, .null] [] (zm μ g) u us := by
  refine z_aload_n rfl rfl dL_law_1403 ?_
  refine z_aload_n rfl rfl dL_law_1404 ?_
  refine z_iload rfl dL_law_1405 ?_
  refine z_iconst (nI 1) (by decide) dL_law_1407 ?_
  refine m_addN dL_law_1408 ?_
  refine m_sld (i + 1) (by omega) (by omega) dL_law_1409 ?_
  refine z_aload_n rfl rfl dL_law_1410 ?_
  refine z_iload rfl dL_law_1411 ?_
  refine z_iconst (nI 2) (by decide) dL_law_1413 ?_
  refine m_addN dL_law_1414 ?_
  refine m_sld (i + 2) (by omega) (by omega) dL_law_1415 ?_
  refine z_aload_n rfl rfl dL_law_1416 ?_
  refine z_callSX (as := [.ref (1), .int (xs (i + 1)), .int (xs (i + 2)), .ref (145)]) (w_of c1) ko_L_of kl_L_154 rfl rfl ⟨by decide, by decide, by show u + 2 ≤ 601024; omega, by show us + 12 ≤ 7293034; omega⟩ (Nat.le_of_ble_eq_true rfl) rfl dL_law_1417 ?_
  refine z_istore (by decide) rfl dL_law_1420 ?_
  refine z_aload_n rfl rfl dL_law_1422 ?_
  refine z_aload_n rfl rfl dL_law_1423 ?_
  refine z_iload rfl dL_law_1424 ?_
  refine z_iconst (nI 1) (by decide) dL_law_1426 ?_
  refine m_addN dL_law_1427 ?_
  refine m_sld (i + 1) (by omega) (by omega) dL_law_1428 ?_
  refine z_aload_n rfl rfl dL_law_1429 ?_
  refine z_iload rfl dL_law_1430 ?_
  refine z_iconst (nI 2) (by decide) dL_law_1432 ?_
  refine m_addN dL_law_1433 ?_
  refine m_sld (i + 2) (by omega) (by omega) dL_law_1434 ?_
  refine z_callV (as := [.int (xs (i + 1)), .int (xs (i + 2))]) (c2 _) ko_X8_of kl_L_156 rfl (zl_a rfl rfl) rfl rfl ⟨by decide, by decide, by show u + 2 ≤ 601024; omega, by show us + 12 ≤ 7293034; omega⟩ (Nat.le_of_ble_eq_true rfl) rfl dL_law_1435 ?_
  refine z_istore (by decide) rfl dL_law_1438 ?_
  refine z_aload_n rfl rfl dL_law_1440 ?_
  refine z_callV (as := []) (ct_thr c3) ko_X8_thrown kl_L_99 rfl (zl_a rfl rfl) rfl rfl ⟨by decide, by decide, by show u + 2 ≤ 601024; omega, by show us + 12 ≤ 7293034; omega⟩ (Nat.le_of_ble_eq_true rfl) rfl dL_law_1441 ?_
  refine z_iload rfl dL_law_1444 ?_
  refine z_icmp_eq 1451 (by decide) dL_law_1446 (fun _ => ?_) (fun h => absurd h (by decide))
  refine z_iload rfl dL_law_1451 ?_
  refine z_if_ne 1468 (by decide) dL_law_1453 (fun h => absurd h (by decide)) (fun _ => ?_)
  refine z_aload_n rfl rfl dL_law_1456 ?_
  refine z_iconst (nI 0) (by decide) dL_law_1457 ?_
  refine z_lald (zl_a rfl rfl) (vp_in_nI (by decide) (by decide)) dL_law_1458 ?_
  refine z_iload rfl dL_law_1459 ?_
  refine z_i2l dL_law_1461 ?_
  refine z_lcmp dL_law_1462 ?_
  refine m_eqv (w := nI 0) (lg_self _) ?_
  refine z_if_eq 1468 (by decide) dL_law_1463 (fun _ => ?_) (fun h => absurd h (by decide))
  refine z_goto 1835 (by decide) dL_law_1468 ?_
  refine z_fgt [.ref (0), .ref (1), .ref (117), .ref (145), .int (nI i), .null, .null] ⟨Or.inl rfl, ⟨Or.inl rfl, ⟨Or.inl rfl, ⟨Or.inl rfl, ⟨Or.inl rfl, ⟨Or.inr rfl, ⟨Or.inr rfl, trivial⟩⟩⟩⟩⟩⟩⟩ ?_
  exact kk _ _ _ (by show u + 2 ≤ u + 8; omega) (by show us + 12 ≤ us + 40; omega)
set_option maxRecDepth 100000 in
set_option maxHeartbeats 4000000 in
theorem lk_of_I {L i u us : Nat} {xs : Nat → Int32} {μ μ1 μ2 : zMu} {g : Int64} {w : Int32} {o : zO} (hi : i + 6 ≤ L) (hL : L ≤ 3072) (hu : u + 8 ≤ 601024) (hus : us + 40 ≤ 7293034) (c1 : zCt (L, xs) kX7_of [.ref (1), .int (xs (i + 1)), .int (xs (i + 2))] (zm μ g) (.inr xI, zm μ g)) (c2 : ∀ g9, zCt (L, xs) kX8_of [.ref (117), .int (xs (i + 1)), .int (xs (i + 2))] (zm μ g9) (.inl (some (.int w)), zm μ2 g9)) (c3 : μ2 117 0 = nI 1) (kk : ∀ g2 u9 us9, u9 ≤ u + 8 → us9 ≤ us + 40 → zV true (L, xs) kL_law 0 o 1835 [.ref (0), .ref (1), .ref (117), .ref (145), .int (nI i), .null, .null] [] (zm μ2 g2) u9 us9) : zV true (L, xs) kL_law 0 o 1403 [.ref (0), .ref (1), .ref (117), .ref (145), .int (nI i), .null, .null] [] (zm μ g) u us := by
  refine z_aload_n rfl rfl dL_law_1403 ?_
  refine z_aload_n rfl rfl dL_law_1404 ?_
  refine z_iload rfl dL_law_1405 ?_
  refine z_iconst (nI 1) (by decide) dL_law_1407 ?_
  refine m_addN dL_law_1408 ?_
  refine m_sld (i + 1) (by omega) (by omega) dL_law_1409 ?_
  refine z_aload_n rfl rfl dL_law_1410 ?_
  refine z_iload rfl dL_law_1411 ?_
  refine z_iconst (nI 2) (by decide) dL_law_1413 ?_
  refine m_addN dL_law_1414 ?_
  refine m_sld (i + 2) (by omega) (by omega) dL_law_1415 ?_
  refine z_aload_n rfl rfl dL_law_1416 ?_
  refine z_callSX (as := [.ref (1), .int (xs (i + 1)), .int (xs (i + 2)), .ref (145)]) (wI_of c1) ko_L_of kl_L_154 rfl rfl ⟨by decide, by decide, by show u + 2 ≤ 601024; omega, by show us + 12 ≤ 7293034; omega⟩ (Nat.le_of_ble_eq_true rfl) rfl dL_law_1417 ?_
  refine z_istore (by decide) rfl dL_law_1420 ?_
  refine z_aload_n rfl rfl dL_law_1422 ?_
  refine z_aload_n rfl rfl dL_law_1423 ?_
  refine z_iload rfl dL_law_1424 ?_
  refine z_iconst (nI 1) (by decide) dL_law_1426 ?_
  refine m_addN dL_law_1427 ?_
  refine m_sld (i + 1) (by omega) (by omega) dL_law_1428 ?_
  refine z_aload_n rfl rfl dL_law_1429 ?_
  refine z_iload rfl dL_law_1430 ?_
  refine z_iconst (nI 2) (by decide) dL_law_1432 ?_
  refine m_addN dL_law_1433 ?_
  refine m_sld (i + 2) (by omega) (by omega) dL_law_1434 ?_
  refine z_callV (as := [.int (xs (i + 1)), .int (xs (i + 2))]) (c2 _) ko_X8_of kl_L_156 rfl (zl_a rfl rfl) rfl rfl ⟨by decide, by decide, by show u + 2 ≤ 601024; omega, by show us + 12 ≤ 7293034; omega⟩ (Nat.le_of_ble_eq_true rfl) rfl dL_law_1435 ?_
  refine z_istore (by decide) rfl dL_law_1438 ?_
  refine z_aload_n rfl rfl dL_law_1440 ?_
  refine z_callV (as := []) (ct_thr c3) ko_X8_thrown kl_L_99 rfl (zl_a rfl rfl) rfl rfl ⟨by decide, by decide, by show u + 2 ≤ 601024; omega, by show us + 12 ≤ 7293034; omega⟩ (Nat.le_of_ble_eq_true rfl) rfl dL_law_1441 ?_
  refine z_iload rfl dL_law_1444 ?_
  refine z_icmp_eq 1451 (by decide) dL_law_1446 (fun _ => ?_) (fun h => absurd h (by decide))
  refine z_iload rfl dL_law_1451 ?_
  refine z_if_ne 1468 (by decide) dL_law_1453 (fun _ => ?_) (fun h => absurd h (by decide))
  refine z_goto 1835 (by decide) dL_law_1468 ?_
  refine z_fgt [.ref (0), .ref (1), .ref (117), .ref (145), .int (nI i), .null, .null] ⟨Or.inl rfl, ⟨Or.inl rfl, ⟨Or.inl rfl, ⟨Or.inl rfl, ⟨Or.inl rfl, ⟨Or.inr rfl, ⟨Or.inr rfl, trivial⟩⟩⟩⟩⟩⟩⟩ ?_
  exact kk _ _ _ (by show u + 2 ≤ u + 8; omega) (by show us + 12 ≤ us + 40; omega)
set_option maxRecDepth 100000 in
set_option maxHeartbeats 4000000 in
theorem lk_of_A {L i u us : Nat} {xs : Nat → Int32} {μ μ1 μ2 : zMu} {g : Int64} {w : Int32} {o : zO} (hi : i + 6 ≤ L) (hL : L ≤ 3072) (hu : u + 8 ≤ 601024) (hus : us + 40 ≤ 7293034) (c1 : zCt (L, xs) kX7_of [.ref (1), .int (xs (i + 1)), .int (xs (i + 2))] (zm μ g) (.inr xA, zm μ g)) (c2 : ∀ g9, zCt (L, xs) kX8_of [.ref (117), .int (xs (i + 1)), .int (xs (i + 2))] (zm μ g9) (.inl (some (.int w)), zm μ2 g9)) (c3 : μ2 117 0 = nI 2) (kk : ∀ g2 u9 us9, u9 ≤ u + 8 → us9 ≤ us + 40 → zV true (L, xs) kL_law 0 o 1835 [.ref (0), .ref (1), .ref (117), .ref (145), .int (nI i), .null, .null] [] (zm μ2 g2) u9 us9) : zV true (L, xs) kL_law 0 o 1403 [.ref (0), .ref (1), .ref (117), .ref (145), .int (nI i), .null, .null] [] (zm μ g) u us := by
  refine z_aload_n rfl rfl dL_law_1403 ?_
  refine z_aload_n rfl rfl dL_law_1404 ?_
  refine z_iload rfl dL_law_1405 ?_
  refine z_iconst (nI 1) (by decide) dL_law_1407 ?_
  refine m_addN dL_law_1408 ?_
  refine m_sld (i + 1) (by omega) (by omega) dL_law_1409 ?_
  refine z_aload_n rfl rfl dL_law_1410 ?_
  refine z_iload rfl dL_law_1411 ?_
  refine z_iconst (nI 2) (by decide) dL_law_1413 ?_
  refine m_addN dL_law_1414 ?_
  refine m_sld (i + 2) (by omega) (by omega) dL_law_1415 ?_
  refine z_aload_n rfl rfl dL_law_1416 ?_
  refine z_callSX (as := [.ref (1), .int (xs (i + 1)), .int (xs (i + 2)), .ref (145)]) (wA_of c1) ko_L_of kl_L_154 rfl rfl ⟨by decide, by decide, by show u + 2 ≤ 601024; omega, by show us + 12 ≤ 7293034; omega⟩ (Nat.le_of_ble_eq_true rfl) rfl dL_law_1417 ?_
  refine z_istore (by decide) rfl dL_law_1420 ?_
  refine z_aload_n rfl rfl dL_law_1422 ?_
  refine z_aload_n rfl rfl dL_law_1423 ?_
  refine z_iload rfl dL_law_1424 ?_
  refine z_iconst (nI 1) (by decide) dL_law_1426 ?_
  refine m_addN dL_law_1427 ?_
  refine m_sld (i + 1) (by omega) (by omega) dL_law_1428 ?_
  refine z_aload_n rfl rfl dL_law_1429 ?_
  refine z_iload rfl dL_law_1430 ?_
  refine z_iconst (nI 2) (by decide) dL_law_1432 ?_
  refine m_addN dL_law_1433 ?_
  refine m_sld (i + 2) (by omega) (by omega) dL_law_1434 ?_
  refine z_callV (as := [.int (xs (i + 1)), .int (xs (i + 2))]) (c2 _) ko_X8_of kl_L_156 rfl (zl_a rfl rfl) rfl rfl ⟨by decide, by decide, by show u + 2 ≤ 601024; omega, by show us + 12 ≤ 7293034; omega⟩ (Nat.le_of_ble_eq_true rfl) rfl dL_law_1435 ?_
  refine z_istore (by decide) rfl dL_law_1438 ?_
  refine z_aload_n rfl rfl dL_law_1440 ?_
  refine z_callV (as := []) (ct_thr c3) ko_X8_thrown kl_L_99 rfl (zl_a rfl rfl) rfl rfl ⟨by decide, by decide, by show u + 2 ≤ 601024; omega, by show us + 12 ≤ 7293034; omega⟩ (Nat.le_of_ble_eq_true rfl) rfl dL_law_1441 ?_
  refine z_iload rfl dL_law_1444 ?_
  refine z_icmp_eq 1451 (by decide) dL_law_1446 (fun _ => ?_) (fun h => absurd h (by decide))
  refine z_iload rfl dL_law_1451 ?_
  refine z_if_ne 1468 (by decide) dL_law_1453 (fun _ => ?_) (fun h => absurd h (by decide))
  refine z_goto 1835 (by decide) dL_law_1468 ?_
  refine z_fgt [.ref (0), .ref (1), .ref (117), .ref (145), .int (nI i), .null, .null] ⟨Or.inl rfl, ⟨Or.inl rfl, ⟨Or.inl rfl, ⟨Or.inl rfl, ⟨Or.inl rfl, ⟨Or.inr rfl, ⟨Or.inr rfl, trivial⟩⟩⟩⟩⟩⟩⟩ ?_
  exact kk _ _ _ (by show u + 2 ≤ u + 8; omega) (by show us + 12 ≤ us + 40; omega)
set_option maxRecDepth 100000 in
set_option maxHeartbeats 4000000 in
theorem lk_ofIsland_ok {L i u us : Nat} {xs : Nat → Int32} {μ μ1 μ2 : zMu} {g : Int64} {v : Int32} {o : zO} (hi : i + 6 ≤ L) (hL : L ≤ 3072) (hu : u + 8 ≤ 601024) (hus : us + 40 ≤ 7293034) (c1 : zCt (L, xs) kX7_ofIsland [.ref (1), .int (xs (i + 1)), .int (xs (i + 2))] (zm μ g) (.inl (some (.int v)), zm μ1 g)) (c2 : ∀ g9, zCt (L, xs) kX8_ofIsland [.ref (117), .int (xs (i + 1)), .int (xs (i + 2))] (zm μ1 g9) (.inl (some (.int v)), zm μ2 g9)) (c3 : μ2 117 0 = nI 0) (kk : ∀ g2 u9 us9, u9 ≤ u + 8 → us9 ≤ us + 40 → zV true (L, xs) kL_law 0 o 1835 [.ref (0), .ref (1), .ref (117), .ref (145), .int (nI i), .null, .null] [] (zm μ2 g2) u9 us9) : zV true (L, xs) kL_law 0 o 1471 [.ref (0), .ref (1), .ref (117), .ref (145), .int (nI i), .null, .null] [] (zm μ g) u us := by
  refine z_aload_n rfl rfl dL_law_1471 ?_
  refine z_aload_n rfl rfl dL_law_1472 ?_
  refine z_iload rfl dL_law_1473 ?_
  refine z_iconst (nI 1) (by decide) dL_law_1475 ?_
  refine m_addN dL_law_1476 ?_
  refine m_sld (i + 1) (by omega) (by omega) dL_law_1477 ?_
  refine z_aload_n rfl rfl dL_law_1478 ?_
  refine z_iload rfl dL_law_1479 ?_
  refine z_iconst (nI 2) (by decide) dL_law_1481 ?_
  refine m_addN dL_law_1482 ?_
  refine m_sld (i + 2) (by omega) (by omega) dL_law_1483 ?_
  refine z_aload_n rfl rfl dL_law_1484 ?_
  refine z_callSX (as := [.ref (1), .int (xs (i + 1)), .int (xs (i + 2)), .ref (145)]) (w_ofIsland c1) ko_L_ofIsland kl_L_157 rfl rfl ⟨by decide, by decide, by show u + 2 ≤ 601024; omega, by show us + 12 ≤ 7293034; omega⟩ (Nat.le_of_ble_eq_true rfl) rfl dL_law_1485 ?_
  refine z_istore (by decide) rfl dL_law_1488 ?_
  refine z_aload_n rfl rfl dL_law_1490 ?_
  refine z_aload_n rfl rfl dL_law_1491 ?_
  refine z_iload rfl dL_law_1492 ?_
  refine z_iconst (nI 1) (by decide) dL_law_1494 ?_
  refine m_addN dL_law_1495 ?_
  refine m_sld (i + 1) (by omega) (by omega) dL_law_1496 ?_
  refine z_aload_n rfl rfl dL_law_1497 ?_
  refine z_iload rfl dL_law_1498 ?_
  refine z_iconst (nI 2) (by decide) dL_law_1500 ?_
  refine m_addN dL_law_1501 ?_
  refine m_sld (i + 2) (by omega) (by omega) dL_law_1502 ?_
  refine z_callV (as := [.int (xs (i + 1)), .int (xs (i + 2))]) (c2 _) ko_X8_ofIsland kl_L_159 rfl (zl_a rfl rfl) rfl rfl ⟨by decide, by decide, by show u + 2 ≤ 601024; omega, by show us + 12 ≤ 7293034; omega⟩ (Nat.le_of_ble_eq_true rfl) rfl dL_law_1503 ?_
  refine z_istore (by decide) rfl dL_law_1506 ?_
  refine z_aload_n rfl rfl dL_law_1508 ?_
  refine z_callV (as := []) (ct_thr c3) ko_X8_thrown kl_L_99 rfl (zl_a rfl rfl) rfl rfl ⟨by decide, by decide, by show u + 2 ≤ 601024; omega, by show us + 12 ≤ 7293034; omega⟩ (Nat.le_of_ble_eq_true rfl) rfl dL_law_1509 ?_
  refine z_iload rfl dL_law_1512 ?_
  refine z_icmp_eq 1519 (by decide) dL_law_1514 (fun _ => ?_) (fun h => absurd h (by decide))
  refine z_iload rfl dL_law_1519 ?_
  refine z_if_ne 1536 (by decide) dL_law_1521 (fun h => absurd h (by decide)) (fun _ => ?_)
  refine z_aload_n rfl rfl dL_law_1524 ?_
  refine z_iconst (nI 0) (by decide) dL_law_1525 ?_
  refine z_lald (zl_a rfl rfl) (vp_in_nI (by decide) (by decide)) dL_law_1526 ?_
  refine z_iload rfl dL_law_1527 ?_
  refine z_i2l dL_law_1529 ?_
  refine z_lcmp dL_law_1530 ?_
  refine m_eqv (w := nI 0) (lg_self _) ?_
  refine z_if_eq 1536 (by decide) dL_law_1531 (fun _ => ?_) (fun h => absurd h (by decide))
  refine z_goto 1835 (by decide) dL_law_1536 ?_
  refine z_fgt [.ref (0), .ref (1), .ref (117), .ref (145), .int (nI i), .null, .null] ⟨Or.inl rfl, ⟨Or.inl rfl, ⟨Or.inl rfl, ⟨Or.inl rfl, ⟨Or.inl rfl, ⟨Or.inr rfl, ⟨Or.inr rfl, trivial⟩⟩⟩⟩⟩⟩⟩ ?_
  exact kk _ _ _ (by show u + 2 ≤ u + 8; omega) (by show us + 12 ≤ us + 40; omega)
set_option maxRecDepth 100000 in
set_option maxHeartbeats 4000000 in
theorem lk_ofIsland_I {L i u us : Nat} {xs : Nat → Int32} {μ μ1 μ2 : zMu} {g : Int64} {w : Int32} {o : zO} (hi : i + 6 ≤ L) (hL : L ≤ 3072) (hu : u + 8 ≤ 601024) (hus : us + 40 ≤ 7293034) (c1 : zCt (L, xs) kX7_ofIsland [.ref (1), .int (xs (i + 1)), .int (xs (i + 2))] (zm μ g) (.inr xI, zm μ g)) (c2 : ∀ g9, zCt (L, xs) kX8_ofIsland [.ref (117), .int (xs (i + 1)), .int (xs (i + 2))] (zm μ g9) (.inl (some (.int w)), zm μ2 g9)) (c3 : μ2 117 0 = nI 1) (kk : ∀ g2 u9 us9, u9 ≤ u + 8 → us9 ≤ us + 40 → zV true (L, xs) kL_law 0 o 1835 [.ref (0), .ref (1), .ref (117), .ref (145), .int (nI i), .null, .null] [] (zm μ2 g2) u9 us9) : zV true (L, xs) kL_law 0 o 1471 [.ref (0), .ref (1), .ref (117), .ref (145), .int (nI i), .null, .null] [] (zm μ g) u us := by
  refine z_aload_n rfl rfl dL_law_1471 ?_
  refine z_aload_n rfl rfl dL_law_1472 ?_
  refine z_iload rfl dL_law_1473 ?_
  refine z_iconst (nI 1) (by decide) dL_law_1475 ?_
  refine m_addN dL_law_1476 ?_
  refine m_sld (i + 1) (by omega) (by omega) dL_law_1477 ?_
  refine z_aload_n rfl rfl dL_law_1478 ?_
  refine z_iload rfl dL_law_1479 ?_
  refine z_iconst (nI 2) (by decide) dL_law_1481 ?_
  refine m_addN dL_law_1482 ?_
  refine m_sld (i + 2) (by omega) (by omega) dL_law_1483 ?_
  refine z_aload_n rfl rfl dL_law_1484 ?_
  refine z_callSX (as := [.ref (1), .int (xs (i + 1)), .int (xs (i + 2)), .ref (145)]) (wI_ofIsland c1) ko_L_ofIsland kl_L_157 rfl rfl ⟨by decide, by decide, by show u + 2 ≤ 601024; omega, by show us + 12 ≤ 7293034; omega⟩ (Nat.le_of_ble_eq_true rfl) rfl dL_law_1485 ?_
  refine z_istore (by decide) rfl dL_law_1488 ?_
  refine z_aload_n rfl rfl dL_law_1490 ?_
  refine z_aload_n rfl rfl dL_law_1491 ?_
  refine z_iload rfl dL_law_1492 ?_
  refine z_iconst (nI 1) (by decide) dL_law_1494 ?_
  refine m_addN dL_law_1495 ?_
  refine m_sld (i + 1) (by omega) (by omega) dL_law_1496 ?_
  refine z_aload_n rfl rfl dL_law_1497 ?_
  refine z_iload rfl dL_law_1498 ?_
  refine z_iconst (nI 2) (by decide) dL_law_1500 ?_
  refine m_addN dL_law_1501 ?_
  refine m_sld (i + 2) (by omega) (by omega) dL_law_1502 ?_
  refine z_callV (as := [.int (xs (i + 1)), .int (xs (i + 2))]) (c2 _) ko_X8_ofIsland kl_L_159 rfl (zl_a rfl rfl) rfl rfl ⟨by decide, by decide, by show u + 2 ≤ 601024; omega, by show us + 12 ≤ 7293034; omega⟩ (Nat.le_of_ble_eq_true rfl) rfl dL_law_1503 ?_
  refine z_istore (by decide) rfl dL_law_1506 ?_
  refine z_aload_n rfl rfl dL_law_1508 ?_
  refine z_callV (as := []) (ct_thr c3) ko_X8_thrown kl_L_99 rfl (zl_a rfl rfl) rfl rfl ⟨by decide, by decide, by show u + 2 ≤ 601024; omega, by show us + 12 ≤ 7293034; omega⟩ (Nat.le_of_ble_eq_true rfl) rfl dL_law_1509 ?_
  refine z_iload rfl dL_law_1512 ?_
  refine z_icmp_eq 1519 (by decide) dL_law_1514 (fun _ => ?_) (fun h => absurd h (by decide))
  refine z_iload rfl dL_law_1519 ?_
  refine z_if_ne 1536 (by decide) dL_law_1521 (fun _ => ?_) (fun h => absurd h (by decide))
  refine z_goto 1835 (by decide) dL_law_1536 ?_
  refine z_fgt [.ref (0), .ref (1), .ref (117), .ref (145), .int (nI i), .null, .null] ⟨Or.inl rfl, ⟨Or.inl rfl, ⟨Or.inl rfl, ⟨Or.inl rfl, ⟨Or.inl rfl, ⟨Or.inr rfl, ⟨Or.inr rfl, trivial⟩⟩⟩⟩⟩⟩⟩ ?_
  exact kk _ _ _ (by show u + 2 ≤ u + 8; omega) (by show us + 12 ≤ us + 40; omega)
set_option maxRecDepth 100000 in
set_option maxHeartbeats 4000000 in
theorem lk_ofIsland_A {L i u us : Nat} {xs : Nat → Int32} {μ μ1 μ2 : zMu} {g : Int64} {w : Int32} {o : zO} (hi : i + 6 ≤ L) (hL : L ≤ 3072) (hu : u + 8 ≤ 601024) (hus : us + 40 ≤ 7293034) (c1 : zCt (L, xs) kX7_ofIsland [.ref (1), .int (xs (i + 1)), .int (xs (i + 2))] (zm μ g) (.inr xA, zm μ g)) (c2 : ∀ g9, zCt (L, xs) kX8_ofIsland [.ref (117), .int (xs (i + 1)), .int (xs (i + 2))] (zm μ g9) (.inl (some (.int w)), zm μ2 g9)) (c3 : μ2 117 0 = nI 2) (kk : ∀ g2 u9 us9, u9 ≤ u + 8 → us9 ≤ us + 40 → zV true (L, xs) kL_law 0 o 1835 [.ref (0), .ref (1), .ref (117), .ref (145), .int (nI i), .null, .null] [] (zm μ2 g2) u9 us9) : zV true (L, xs) kL_law 0 o 1471 [.ref (0), .ref (1), .ref (117), .ref (145), .int (nI i), .null, .null] [] (zm μ g) u us := by
  refine z_aload_n rfl rfl dL_law_1471 ?_
  refine z_aload_n rfl rfl dL_law_1472 ?_
  refine z_iload rfl dL_law_1473 ?_
  refine z_iconst (nI 1) (by decide) dL_law_1475 ?_
  refine m_addN dL_law_1476 ?_
  refine m_sld (i + 1) (by omega) (by omega) dL_law_1477 ?_
  refine z_aload_n rfl rfl dL_law_1478 ?_
  refine z_iload rfl dL_law_1479 ?_
  refine z_iconst (nI 2) (by decide) dL_law_1481 ?_
  refine m_addN dL_law_1482 ?_
  refine m_sld (i + 2) (by omega) (by omega) dL_law_1483 ?_
  refine z_aload_n rfl rfl dL_law_1484 ?_
  refine z_callSX (as := [.ref (1), .int (xs (i + 1)), .int (xs (i + 2)), .ref (145)]) (wA_ofIsland c1) ko_L_ofIsland kl_L_157 rfl rfl ⟨by decide, by decide, by show u + 2 ≤ 601024; omega, by show us + 12 ≤ 7293034; omega⟩ (Nat.le_of_ble_eq_true rfl) rfl dL_law_1485 ?_
  refine z_istore (by decide) rfl dL_law_1488 ?_
  refine z_aload_n rfl rfl dL_law_1490 ?_
  refine z_aload_n rfl rfl dL_law_1491 ?_
  refine z_iload rfl dL_law_1492 ?_
  refine z_iconst (nI 1) (by decide) dL_law_1494 ?_
  refine m_addN dL_law_1495 ?_
  refine m_sld (i + 1) (by omega) (by omega) dL_law_1496 ?_
  refine z_aload_n rfl rfl dL_law_1497 ?_
  refine z_iload rfl dL_law_1498 ?_
  refine z_iconst (nI 2) (by decide) dL_law_1500 ?_
  refine m_addN dL_law_1501 ?_
  refine m_sld (i + 2) (by omega) (by omega) dL_law_1502 ?_
  refine z_callV (as := [.int (xs (i + 1)), .int (xs (i + 2))]) (c2 _) ko_X8_ofIsland kl_L_159 rfl (zl_a rfl rfl) rfl rfl ⟨by decide, by decide, by show u + 2 ≤ 601024; omega, by show us + 12 ≤ 7293034; omega⟩ (Nat.le_of_ble_eq_true rfl) rfl dL_law_1503 ?_
  refine z_istore (by decide) rfl dL_law_1506 ?_
  refine z_aload_n rfl rfl dL_law_1508 ?_
  refine z_callV (as := []) (ct_thr c3) ko_X8_thrown kl_L_99 rfl (zl_a rfl rfl) rfl rfl ⟨by decide, by decide, by show u + 2 ≤ 601024; omega, by show us + 12 ≤ 7293034; omega⟩ (Nat.le_of_ble_eq_true rfl) rfl dL_law_1509 ?_
  refine z_iload rfl dL_law_1512 ?_
  refine z_icmp_eq 1519 (by decide) dL_law_1514 (fun _ => ?_) (fun h => absurd h (by decide))
  refine z_iload rfl dL_law_1519 ?_
  refine z_if_ne 1536 (by decide) dL_law_1521 (fun _ => ?_) (fun h => absurd h (by decide))
  refine z_goto 1835 (by decide) dL_law_1536 ?_
  refine z_fgt [.ref (0), .ref (1), .ref (117), .ref (145), .int (nI i), .null, .null] ⟨Or.inl rfl, ⟨Or.inl rfl, ⟨Or.inl rfl, ⟨Or.inl rfl, ⟨Or.inl rfl, ⟨Or.inr rfl, ⟨Or.inr rfl, trivial⟩⟩⟩⟩⟩⟩⟩ ?_
  exact kk _ _ _ (by show u + 2 ≤ u + 8; omega) (by show us + 12 ≤ us + 40; omega)
set_option maxRecDepth 100000 in
set_option maxHeartbeats 4000000 in
theorem lk_fit_ok {L i u us : Nat} {xs : Nat → Int32} {μ μ1 μ2 : zMu} {g : Int64} {v : Int32} {o : zO} (hi : i + 6 ≤ L) (hL : L ≤ 3072) (hu : u + 8 ≤ 601024) (hus : us + 40 ≤ 7293034) (c1 : zCt (L, xs) kX7_fit [.ref (1), .int (xs (i + 1)), .int (xs (i + 2)), .int (xs (i + 3))] (zm μ g) (.inl (some (.int v)), zm μ1 g)) (c2 : ∀ g9, zCt (L, xs) kX8_fit [.ref (117), .int (xs (i + 1)), .int (xs (i + 2)), .int (xs (i + 3))] (zm μ1 g9) (.inl (some (.int v)), zm μ2 g9)) (c3 : μ2 117 0 = nI 0) (kk : ∀ g2 u9 us9, u9 ≤ u + 8 → us9 ≤ us + 40 → zV true (L, xs) kL_law 0 o 1835 [.ref (0), .ref (1), .ref (117), .ref (145), .int (nI i), .null, .null] [] (zm μ2 g2) u9 us9) : zV true (L, xs) kL_law 0 o 1539 [.ref (0), .ref (1), .ref (117), .ref (145), .int (nI i), .null, .null] [] (zm μ g) u us := by
  refine z_aload_n rfl rfl dL_law_1539 ?_
  refine z_aload_n rfl rfl dL_law_1540 ?_
  refine z_iload rfl dL_law_1541 ?_
  refine z_iconst (nI 1) (by decide) dL_law_1543 ?_
  refine m_addN dL_law_1544 ?_
  refine m_sld (i + 1) (by omega) (by omega) dL_law_1545 ?_
  refine z_aload_n rfl rfl dL_law_1546 ?_
  refine z_iload rfl dL_law_1547 ?_
  refine z_iconst (nI 2) (by decide) dL_law_1549 ?_
  refine m_addN dL_law_1550 ?_
  refine m_sld (i + 2) (by omega) (by omega) dL_law_1551 ?_
  refine z_aload_n rfl rfl dL_law_1552 ?_
  refine z_iload rfl dL_law_1553 ?_
  refine z_iconst (nI 3) (by decide) dL_law_1555 ?_
  refine m_addN dL_law_1556 ?_
  refine m_sld (i + 3) (by omega) (by omega) dL_law_1557 ?_
  refine z_aload_n rfl rfl dL_law_1558 ?_
  refine z_callSX (as := [.ref (1), .int (xs (i + 1)), .int (xs (i + 2)), .int (xs (i + 3)), .ref (145)]) (w_fit c1) ko_L_fit kl_L_160 rfl rfl ⟨by decide, by decide, by show u + 3 ≤ 601024; omega, by show us + 18 ≤ 7293034; omega⟩ (Nat.le_of_ble_eq_true rfl) rfl dL_law_1559 ?_
  refine z_istore (by decide) rfl dL_law_1562 ?_
  refine z_aload_n rfl rfl dL_law_1564 ?_
  refine z_aload_n rfl rfl dL_law_1565 ?_
  refine z_iload rfl dL_law_1566 ?_
  refine z_iconst (nI 1) (by decide) dL_law_1568 ?_
  refine m_addN dL_law_1569 ?_
  refine m_sld (i + 1) (by omega) (by omega) dL_law_1570 ?_
  refine z_aload_n rfl rfl dL_law_1571 ?_
  refine z_iload rfl dL_law_1572 ?_
  refine z_iconst (nI 2) (by decide) dL_law_1574 ?_
  refine m_addN dL_law_1575 ?_
  refine m_sld (i + 2) (by omega) (by omega) dL_law_1576 ?_
  refine z_aload_n rfl rfl dL_law_1577 ?_
  refine z_iload rfl dL_law_1578 ?_
  refine z_iconst (nI 3) (by decide) dL_law_1580 ?_
  refine m_addN dL_law_1581 ?_
  refine m_sld (i + 3) (by omega) (by omega) dL_law_1582 ?_
  refine z_callV (as := [.int (xs (i + 1)), .int (xs (i + 2)), .int (xs (i + 3))]) (c2 _) ko_X8_fit kl_L_162 rfl (zl_a rfl rfl) rfl rfl ⟨by decide, by decide, by show u + 3 ≤ 601024; omega, by show us + 18 ≤ 7293034; omega⟩ (Nat.le_of_ble_eq_true rfl) rfl dL_law_1583 ?_
  refine z_istore (by decide) rfl dL_law_1586 ?_
  refine z_aload_n rfl rfl dL_law_1588 ?_
  refine z_callV (as := []) (ct_thr c3) ko_X8_thrown kl_L_99 rfl (zl_a rfl rfl) rfl rfl ⟨by decide, by decide, by show u + 3 ≤ 601024; omega, by show us + 18 ≤ 7293034; omega⟩ (Nat.le_of_ble_eq_true rfl) rfl dL_law_1589 ?_
  refine z_iload rfl dL_law_1592 ?_
  refine z_icmp_eq 1599 (by decide) dL_law_1594 (fun _ => ?_) (fun h => absurd h (by decide))
  refine z_iload rfl dL_law_1599 ?_
  refine z_if_ne 1616 (by decide) dL_law_1601 (fun h => absurd h (by decide)) (fun _ => ?_)
  refine z_aload_n rfl rfl dL_law_1604 ?_
  refine z_iconst (nI 0) (by decide) dL_law_1605 ?_
  refine z_lald (zl_a rfl rfl) (vp_in_nI (by decide) (by decide)) dL_law_1606 ?_
  refine z_iload rfl dL_law_1607 ?_
  refine z_i2l dL_law_1609 ?_
  refine z_lcmp dL_law_1610 ?_
  refine m_eqv (w := nI 0) (lg_self _) ?_
  refine z_if_eq 1616 (by decide) dL_law_1611 (fun _ => ?_) (fun h => absurd h (by decide))
  refine z_goto 1835 (by decide) dL_law_1616 ?_
  refine z_fgt [.ref (0), .ref (1), .ref (117), .ref (145), .int (nI i), .null, .null] ⟨Or.inl rfl, ⟨Or.inl rfl, ⟨Or.inl rfl, ⟨Or.inl rfl, ⟨Or.inl rfl, ⟨Or.inr rfl, ⟨Or.inr rfl, trivial⟩⟩⟩⟩⟩⟩⟩ ?_
  exact kk _ _ _ (by show u + 3 ≤ u + 8; omega) (by show us + 18 ≤ us + 40; omega)
set_option maxRecDepth 100000 in
set_option maxHeartbeats 4000000 in
theorem lk_fit_I {L i u us : Nat} {xs : Nat → Int32} {μ μ1 μ2 : zMu} {g : Int64} {w : Int32} {o : zO} (hi : i + 6 ≤ L) (hL : L ≤ 3072) (hu : u + 8 ≤ 601024) (hus : us + 40 ≤ 7293034) (c1 : zCt (L, xs) kX7_fit [.ref (1), .int (xs (i + 1)), .int (xs (i + 2)), .int (xs (i + 3))] (zm μ g) (.inr xI, zm μ g)) (c2 : ∀ g9, zCt (L, xs) kX8_fit [.ref (117), .int (xs (i + 1)), .int (xs (i + 2)), .int (xs (i + 3))] (zm μ g9) (.inl (some (.int w)), zm μ2 g9)) (c3 : μ2 117 0 = nI 1) (kk : ∀ g2 u9 us9, u9 ≤ u + 8 → us9 ≤ us + 40 → zV true (L, xs) kL_law 0 o 1835 [.ref (0), .ref (1), .ref (117), .ref (145), .int (nI i), .null, .null] [] (zm μ2 g2) u9 us9) : zV true (L, xs) kL_law 0 o 1539 [.ref (0), .ref (1), .ref (117), .ref (145), .int (nI i), .null, .null] [] (zm μ g) u us := by
  refine z_aload_n rfl rfl dL_law_1539 ?_
  refine z_aload_n rfl rfl dL_law_1540 ?_
  refine z_iload rfl dL_law_1541 ?_
  refine z_iconst (nI 1) (by decide) dL_law_1543 ?_
  refine m_addN dL_law_1544 ?_
  refine m_sld (i + 1) (by omega) (by omega) dL_law_1545 ?_
  refine z_aload_n rfl rfl dL_law_1546 ?_
  refine z_iload rfl dL_law_1547 ?_
  refine z_iconst (nI 2) (by decide) dL_law_1549 ?_
  refine m_addN dL_law_1550 ?_
  refine m_sld (i + 2) (by omega) (by omega) dL_law_1551 ?_
  refine z_aload_n rfl rfl dL_law_1552 ?_
  refine z_iload rfl dL_law_1553 ?_
  refine z_iconst (nI 3) (by decide) dL_law_1555 ?_
  refine m_addN dL_law_1556 ?_
  refine m_sld (i + 3) (by omega) (by omega) dL_law_1557 ?_
  refine z_aload_n rfl rfl dL_law_1558 ?_
  refine z_callSX (as := [.ref (1), .int (xs (i + 1)), .int (xs (i + 2)), .int (xs (i + 3)), .ref (145)]) (wI_fit c1) ko_L_fit kl_L_160 rfl rfl ⟨by decide, by decide, by show u + 3 ≤ 601024; omega, by show us + 18 ≤ 7293034; omega⟩ (Nat.le_of_ble_eq_true rfl) rfl dL_law_1559 ?_
  refine z_istore (by decide) rfl dL_law_1562 ?_
  refine z_aload_n rfl rfl dL_law_1564 ?_
  refine z_aload_n rfl rfl dL_law_1565 ?_
  refine z_iload rfl dL_law_1566 ?_
  refine z_iconst (nI 1) (by decide) dL_law_1568 ?_
  refine m_addN dL_law_1569 ?_
  refine m_sld (i + 1) (by omega) (by omega) dL_law_1570 ?_
  refine z_aload_n rfl rfl dL_law_1571 ?_
  refine z_iload rfl dL_law_1572 ?_
  refine z_iconst (nI 2) (by decide) dL_law_1574 ?_
  refine m_addN dL_law_1575 ?_
  refine m_sld (i + 2) (by omega) (by omega) dL_law_1576 ?_
  refine z_aload_n rfl rfl dL_law_1577 ?_
  refine z_iload rfl dL_law_1578 ?_
  refine z_iconst (nI 3) (by decide) dL_law_1580 ?_
  refine m_addN dL_law_1581 ?_
  refine m_sld (i + 3) (by omega) (by omega) dL_law_1582 ?_
  refine z_callV (as := [.int (xs (i + 1)), .int (xs (i + 2)), .int (xs (i + 3))]) (c2 _) ko_X8_fit kl_L_162 rfl (zl_a rfl rfl) rfl rfl ⟨by decide, by decide, by show u + 3 ≤ 601024; omega, by show us + 18 ≤ 7293034; omega⟩ (Nat.le_of_ble_eq_true rfl) rfl dL_law_1583 ?_
  refine z_istore (by decide) rfl dL_law_1586 ?_
  refine z_aload_n rfl rfl dL_law_1588 ?_
  refine z_callV (as := []) (ct_thr c3) ko_X8_thrown kl_L_99 rfl (zl_a rfl rfl) rfl rfl ⟨by decide, by decide, by show u + 3 ≤ 601024; omega, by show us + 18 ≤ 7293034; omega⟩ (Nat.le_of_ble_eq_true rfl) rfl dL_law_1589 ?_
  refine z_iload rfl dL_law_1592 ?_
  refine z_icmp_eq 1599 (by decide) dL_law_1594 (fun _ => ?_) (fun h => absurd h (by decide))
  refine z_iload rfl dL_law_1599 ?_
  refine z_if_ne 1616 (by decide) dL_law_1601 (fun _ => ?_) (fun h => absurd h (by decide))
  refine z_goto 1835 (by decide) dL_law_1616 ?_
  refine z_fgt [.ref (0), .ref (1), .ref (117), .ref (145), .int (nI i), .null, .null] ⟨Or.inl rfl, ⟨Or.inl rfl, ⟨Or.inl rfl, ⟨Or.inl rfl, ⟨Or.inl rfl, ⟨Or.inr rfl, ⟨Or.inr rfl, trivial⟩⟩⟩⟩⟩⟩⟩ ?_
  exact kk _ _ _ (by show u + 3 ≤ u + 8; omega) (by show us + 18 ≤ us + 40; omega)
set_option maxRecDepth 100000 in
set_option maxHeartbeats 4000000 in
theorem lk_fit_A {L i u us : Nat} {xs : Nat → Int32} {μ μ1 μ2 : zMu} {g : Int64} {w : Int32} {o : zO} (hi : i + 6 ≤ L) (hL : L ≤ 3072) (hu : u + 8 ≤ 601024) (hus : us + 40 ≤ 7293034) (c1 : zCt (L, xs) kX7_fit [.ref (1), .int (xs (i + 1)), .int (xs (i + 2)), .int (xs (i + 3))] (zm μ g) (.inr xA, zm μ g)) (c2 : ∀ g9, zCt (L, xs) kX8_fit [.ref (117), .int (xs (i + 1)), .int (xs (i + 2)), .int (xs (i + 3))] (zm μ g9) (.inl (some (.int w)), zm μ2 g9)) (c3 : μ2 117 0 = nI 2) (kk : ∀ g2 u9 us9, u9 ≤ u + 8 → us9 ≤ us + 40 → zV true (L, xs) kL_law 0 o 1835 [.ref (0), .ref (1), .ref (117), .ref (145), .int (nI i), .null, .null] [] (zm μ2 g2) u9 us9) : zV true (L, xs) kL_law 0 o 1539 [.ref (0), .ref (1), .ref (117), .ref (145), .int (nI i), .null, .null] [] (zm μ g) u us := by
  refine z_aload_n rfl rfl dL_law_1539 ?_
  refine z_aload_n rfl rfl dL_law_1540 ?_
  refine z_iload rfl dL_law_1541 ?_
  refine z_iconst (nI 1) (by decide) dL_law_1543 ?_
  refine m_addN dL_law_1544 ?_
  refine m_sld (i + 1) (by omega) (by omega) dL_law_1545 ?_
  refine z_aload_n rfl rfl dL_law_1546 ?_
  refine z_iload rfl dL_law_1547 ?_
  refine z_iconst (nI 2) (by decide) dL_law_1549 ?_
  refine m_addN dL_law_1550 ?_
  refine m_sld (i + 2) (by omega) (by omega) dL_law_1551 ?_
  refine z_aload_n rfl rfl dL_law_1552 ?_
  refine z_iload rfl dL_law_1553 ?_
  refine z_iconst (nI 3) (by decide) dL_law_1555 ?_
  refine m_addN dL_law_1556 ?_
  refine m_sld (i + 3) (by omega) (by omega) dL_law_1557 ?_
  refine z_aload_n rfl rfl dL_law_1558 ?_
  refine z_callSX (as := [.ref (1), .int (xs (i + 1)), .int (xs (i + 2)), .int (xs (i + 3)), .ref (145)]) (wA_fit c1) ko_L_fit kl_L_160 rfl rfl ⟨by decide, by decide, by show u + 3 ≤ 601024; omega, by show us + 18 ≤ 7293034; omega⟩ (Nat.le_of_ble_eq_true rfl) rfl dL_law_1559 ?_
  refine z_istore (by decide) rfl dL_law_1562 ?_
  refine z_aload_n rfl rfl dL_law_1564 ?_
  refine z_aload_n rfl rfl dL_law_1565 ?_
  refine z_iload rfl dL_law_1566 ?_
  refine z_iconst (nI 1) (by decide) dL_law_1568 ?_
  refine m_addN dL_law_1569 ?_
  refine m_sld (i + 1) (by omega) (by omega) dL_law_1570 ?_
  refine z_aload_n rfl rfl dL_law_1571 ?_
  refine z_iload rfl dL_law_1572 ?_
  refine z_iconst (nI 2) (by decide) dL_law_1574 ?_
  refine m_addN dL_law_1575 ?_
  refine m_sld (i + 2) (by omega) (by omega) dL_law_1576 ?_
  refine z_aload_n rfl rfl dL_law_1577 ?_
  refine z_iload rfl dL_law_1578 ?_
  refine z_iconst (nI 3) (by decide) dL_law_1580 ?_
  refine m_addN dL_law_1581 ?_
  refine m_sld (i + 3) (by omega) (by omega) dL_law_1582 ?_
  refine z_callV (as := [.int (xs (i + 1)), .int (xs (i + 2)), .int (xs (i + 3))]) (c2 _) ko_X8_fit kl_L_162 rfl (zl_a rfl rfl) rfl rfl ⟨by decide, by decide, by show u + 3 ≤ 601024; omega, by show us + 18 ≤ 7293034; omega⟩ (Nat.le_of_ble_eq_true rfl) rfl dL_law_1583 ?_
  refine z_istore (by decide) rfl dL_law_1586 ?_
  refine z_aload_n rfl rfl dL_law_1588 ?_
  refine z_callV (as := []) (ct_thr c3) ko_X8_thrown kl_L_99 rfl (zl_a rfl rfl) rfl rfl ⟨by decide, by decide, by show u + 3 ≤ 601024; omega, by show us + 18 ≤ 7293034; omega⟩ (Nat.le_of_ble_eq_true rfl) rfl dL_law_1589 ?_
  refine z_iload rfl dL_law_1592 ?_
  refine z_icmp_eq 1599 (by decide) dL_law_1594 (fun _ => ?_) (fun h => absurd h (by decide))
  refine z_iload rfl dL_law_1599 ?_
  refine z_if_ne 1616 (by decide) dL_law_1601 (fun _ => ?_) (fun h => absurd h (by decide))
  refine z_goto 1835 (by decide) dL_law_1616 ?_
  refine z_fgt [.ref (0), .ref (1), .ref (117), .ref (145), .int (nI i), .null, .null] ⟨Or.inl rfl, ⟨Or.inl rfl, ⟨Or.inl rfl, ⟨Or.inl rfl, ⟨Or.inl rfl, ⟨Or.inr rfl, ⟨Or.inr rfl, trivial⟩⟩⟩⟩⟩⟩⟩ ?_
  exact kk _ _ _ (by show u + 3 ≤ u + 8; omega) (by show us + 18 ≤ us + 40; omega)
set_option maxRecDepth 100000 in
set_option maxHeartbeats 4000000 in
theorem lk_shared_ok {L i u us : Nat} {xs : Nat → Int32} {μ μ1 μ2 : zMu} {g : Int64} {v : Int32} {o : zO} (hi : i + 6 ≤ L) (hL : L ≤ 3072) (hu : u + 8 ≤ 601024) (hus : us + 40 ≤ 7293034) (c1 : zCt (L, xs) kX7_shared [.ref (1), .int (xs (i + 1)), .int (xs (i + 2)), .int (xs (i + 3))] (zm μ g) (.inl (some (.int v)), zm μ1 g)) (c2 : ∀ g9, zCt (L, xs) kX8_shared [.ref (117), .int (xs (i + 1)), .int (xs (i + 2)), .int (xs (i + 3))] (zm μ1 g9) (.inl (some (.int v)), zm μ2 g9)) (c3 : μ2 117 0 = nI 0) (kk : ∀ g2 u9 us9, u9 ≤ u + 8 → us9 ≤ us + 40 → zV true (L, xs) kL_law 0 o 1835 [.ref (0), .ref (1), .ref (117), .ref (145), .int (nI i), .null, .null] [] (zm μ2 g2) u9 us9) : zV true (L, xs) kL_law 0 o 1619 [.ref (0), .ref (1), .ref (117), .ref (145), .int (nI i), .null, .null] [] (zm μ g) u us := by
  refine z_aload_n rfl rfl dL_law_1619 ?_
  refine z_aload_n rfl rfl dL_law_1620 ?_
  refine z_iload rfl dL_law_1621 ?_
  refine z_iconst (nI 1) (by decide) dL_law_1623 ?_
  refine m_addN dL_law_1624 ?_
  refine m_sld (i + 1) (by omega) (by omega) dL_law_1625 ?_
  refine z_aload_n rfl rfl dL_law_1626 ?_
  refine z_iload rfl dL_law_1627 ?_
  refine z_iconst (nI 2) (by decide) dL_law_1629 ?_
  refine m_addN dL_law_1630 ?_
  refine m_sld (i + 2) (by omega) (by omega) dL_law_1631 ?_
  refine z_aload_n rfl rfl dL_law_1632 ?_
  refine z_iload rfl dL_law_1633 ?_
  refine z_iconst (nI 3) (by decide) dL_law_1635 ?_
  refine m_addN dL_law_1636 ?_
  refine m_sld (i + 3) (by omega) (by omega) dL_law_1637 ?_
  refine z_aload_n rfl rfl dL_law_1638 ?_
  refine z_callSX (as := [.ref (1), .int (xs (i + 1)), .int (xs (i + 2)), .int (xs (i + 3)), .ref (145)]) (w_shared c1) ko_L_shared kl_L_163 rfl rfl ⟨by decide, by decide, by show u + 3 ≤ 601024; omega, by show us + 18 ≤ 7293034; omega⟩ (Nat.le_of_ble_eq_true rfl) rfl dL_law_1639 ?_
  refine z_istore (by decide) rfl dL_law_1642 ?_
  refine z_aload_n rfl rfl dL_law_1644 ?_
  refine z_aload_n rfl rfl dL_law_1645 ?_
  refine z_iload rfl dL_law_1646 ?_
  refine z_iconst (nI 1) (by decide) dL_law_1648 ?_
  refine m_addN dL_law_1649 ?_
  refine m_sld (i + 1) (by omega) (by omega) dL_law_1650 ?_
  refine z_aload_n rfl rfl dL_law_1651 ?_
  refine z_iload rfl dL_law_1652 ?_
  refine z_iconst (nI 2) (by decide) dL_law_1654 ?_
  refine m_addN dL_law_1655 ?_
  refine m_sld (i + 2) (by omega) (by omega) dL_law_1656 ?_
  refine z_aload_n rfl rfl dL_law_1657 ?_
  refine z_iload rfl dL_law_1658 ?_
  refine z_iconst (nI 3) (by decide) dL_law_1660 ?_
  refine m_addN dL_law_1661 ?_
  refine m_sld (i + 3) (by omega) (by omega) dL_law_1662 ?_
  refine z_callV (as := [.int (xs (i + 1)), .int (xs (i + 2)), .int (xs (i + 3))]) (c2 _) ko_X8_shared kl_L_165 rfl (zl_a rfl rfl) rfl rfl ⟨by decide, by decide, by show u + 3 ≤ 601024; omega, by show us + 18 ≤ 7293034; omega⟩ (Nat.le_of_ble_eq_true rfl) rfl dL_law_1663 ?_
  refine z_istore (by decide) rfl dL_law_1666 ?_
  refine z_aload_n rfl rfl dL_law_1668 ?_
  refine z_callV (as := []) (ct_thr c3) ko_X8_thrown kl_L_99 rfl (zl_a rfl rfl) rfl rfl ⟨by decide, by decide, by show u + 3 ≤ 601024; omega, by show us + 18 ≤ 7293034; omega⟩ (Nat.le_of_ble_eq_true rfl) rfl dL_law_1669 ?_
  refine z_iload rfl dL_law_1672 ?_
  refine z_icmp_eq 1679 (by decide) dL_law_1674 (fun _ => ?_) (fun h => absurd h (by decide))
  refine z_iload rfl dL_law_1679 ?_
  refine z_if_ne 1696 (by decide) dL_law_1681 (fun h => absurd h (by decide)) (fun _ => ?_)
  refine z_aload_n rfl rfl dL_law_1684 ?_
  refine z_iconst (nI 0) (by decide) dL_law_1685 ?_
  refine z_lald (zl_a rfl rfl) (vp_in_nI (by decide) (by decide)) dL_law_1686 ?_
  refine z_iload rfl dL_law_1687 ?_
  refine z_i2l dL_law_1689 ?_
  refine z_lcmp dL_law_1690 ?_
  refine m_eqv (w := nI 0) (lg_self _) ?_
  refine z_if_eq 1696 (by decide) dL_law_1691 (fun _ => ?_) (fun h => absurd h (by decide))
  refine z_goto 1835 (by decide) dL_law_1696 ?_
  refine z_fgt [.ref (0), .ref (1), .ref (117), .ref (145), .int (nI i), .null, .null] ⟨Or.inl rfl, ⟨Or.inl rfl, ⟨Or.inl rfl, ⟨Or.inl rfl, ⟨Or.inl rfl, ⟨Or.inr rfl, ⟨Or.inr rfl, trivial⟩⟩⟩⟩⟩⟩⟩ ?_
  exact kk _ _ _ (by show u + 3 ≤ u + 8; omega) (by show us + 18 ≤ us + 40; omega)
set_option maxRecDepth 100000 in
set_option maxHeartbeats 4000000 in
theorem lk_shared_I {L i u us : Nat} {xs : Nat → Int32} {μ μ1 μ2 : zMu} {g : Int64} {w : Int32} {o : zO} (hi : i + 6 ≤ L) (hL : L ≤ 3072) (hu : u + 8 ≤ 601024) (hus : us + 40 ≤ 7293034) (c1 : zCt (L, xs) kX7_shared [.ref (1), .int (xs (i + 1)), .int (xs (i + 2)), .int (xs (i + 3))] (zm μ g) (.inr xI, zm μ g)) (c2 : ∀ g9, zCt (L, xs) kX8_shared [.ref (117), .int (xs (i + 1)), .int (xs (i + 2)), .int (xs (i + 3))] (zm μ g9) (.inl (some (.int w)), zm μ2 g9)) (c3 : μ2 117 0 = nI 1) (kk : ∀ g2 u9 us9, u9 ≤ u + 8 → us9 ≤ us + 40 → zV true (L, xs) kL_law 0 o 1835 [.ref (0), .ref (1), .ref (117), .ref (145), .int (nI i), .null, .null] [] (zm μ2 g2) u9 us9) : zV true (L, xs) kL_law 0 o 1619 [.ref (0), .ref (1), .ref (117), .ref (145), .int (nI i), .null, .null] [] (zm μ g) u us := by
  refine z_aload_n rfl rfl dL_law_1619 ?_
  refine z_aload_n rfl rfl dL_law_1620 ?_
  refine z_iload rfl dL_law_1621 ?_
  refine z_iconst (nI 1) (by decide) dL_law_1623 ?_
  refine m_addN dL_law_1624 ?_
  refine m_sld (i + 1) (by omega) (by omega) dL_law_1625 ?_
  refine z_aload_n rfl rfl dL_law_1626 ?_
  refine z_iload rfl dL_law_1627 ?_
  refine z_iconst (nI 2) (by decide) dL_law_1629 ?_
  refine m_addN dL_law_1630 ?_
  refine m_sld (i + 2) (by omega) (by omega) dL_law_1631 ?_
  refine z_aload_n rfl rfl dL_law_1632 ?_
  refine z_iload rfl dL_law_1633 ?_
  refine z_iconst (nI 3) (by decide) dL_law_1635 ?_
  refine m_addN dL_law_1636 ?_
  refine m_sld (i + 3) (by omega) (by omega) dL_law_1637 ?_
  refine z_aload_n rfl rfl dL_law_1638 ?_
  refine z_callSX (as := [.ref (1), .int (xs (i + 1)), .int (xs (i + 2)), .int (xs (i + 3)), .ref (145)]) (wI_shared c1) ko_L_shared kl_L_163 rfl rfl ⟨by decide, by decide, by show u + 3 ≤ 601024; omega, by show us + 18 ≤ 7293034; omega⟩ (Nat.le_of_ble_eq_true rfl) rfl dL_law_1639 ?_
  refine z_istore (by decide) rfl dL_law_1642 ?_
  refine z_aload_n rfl rfl dL_law_1644 ?_
  refine z_aload_n rfl rfl dL_law_1645 ?_
  refine z_iload rfl dL_law_1646 ?_
  refine z_iconst (nI 1) (by decide) dL_law_1648 ?_
  refine m_addN dL_law_1649 ?_
  refine m_sld (i + 1) (by omega) (by omega) dL_law_1650 ?_
  refine z_aload_n rfl rfl dL_law_1651 ?_
  refine z_iload rfl dL_law_1652 ?_
  refine z_iconst (nI 2) (by decide) dL_law_1654 ?_
  refine m_addN dL_law_1655 ?_
  refine m_sld (i + 2) (by omega) (by omega) dL_law_1656 ?_
  refine z_aload_n rfl rfl dL_law_1657 ?_
  refine z_iload rfl dL_law_1658 ?_
  refine z_iconst (nI 3) (by decide) dL_law_1660 ?_
  refine m_addN dL_law_1661 ?_
  refine m_sld (i + 3) (by omega) (by omega) dL_law_1662 ?_
  refine z_callV (as := [.int (xs (i + 1)), .int (xs (i + 2)), .int (xs (i + 3))]) (c2 _) ko_X8_shared kl_L_165 rfl (zl_a rfl rfl) rfl rfl ⟨by decide, by decide, by show u + 3 ≤ 601024; omega, by show us + 18 ≤ 7293034; omega⟩ (Nat.le_of_ble_eq_true rfl) rfl dL_law_1663 ?_
  refine z_istore (by decide) rfl dL_law_1666 ?_
  refine z_aload_n rfl rfl dL_law_1668 ?_
  refine z_callV (as := []) (ct_thr c3) ko_X8_thrown kl_L_99 rfl (zl_a rfl rfl) rfl rfl ⟨by decide, by decide, by show u + 3 ≤ 601024; omega, by show us + 18 ≤ 7293034; omega⟩ (Nat.le_of_ble_eq_true rfl) rfl dL_law_1669 ?_
  refine z_iload rfl dL_law_1672 ?_
  refine z_icmp_eq 1679 (by decide) dL_law_1674 (fun _ => ?_) (fun h => absurd h (by decide))
  refine z_iload rfl dL_law_1679 ?_
  refine z_if_ne 1696 (by decide) dL_law_1681 (fun _ => ?_) (fun h => absurd h (by decide))
  refine z_goto 1835 (by decide) dL_law_1696 ?_
  refine z_fgt [.ref (0), .ref (1), .ref (117), .ref (145), .int (nI i), .null, .null] ⟨Or.inl rfl, ⟨Or.inl rfl, ⟨Or.inl rfl, ⟨Or.inl rfl, ⟨Or.inl rfl, ⟨Or.inr rfl, ⟨Or.inr rfl, trivial⟩⟩⟩⟩⟩⟩⟩ ?_
  exact kk _ _ _ (by show u + 3 ≤ u + 8; omega) (by show us + 18 ≤ us + 40; omega)
set_option maxRecDepth 100000 in
set_option maxHeartbeats 4000000 in
theorem lk_kin_ok {L i u us : Nat} {xs : Nat → Int32} {μ μ1 μ2 : zMu} {g : Int64} {v : Int32} {o : zO} (hi : i + 6 ≤ L) (hL : L ≤ 3072) (hu : u + 8 ≤ 601024) (hus : us + 40 ≤ 7293034) (c1 : zCt (L, xs) kX7_kin [.ref (1), .int (xs (i + 1)), .int (xs (i + 2))] (zm μ g) (.inl (some (.int v)), zm μ1 g)) (c2 : ∀ g9, zCt (L, xs) kX8_kin [.ref (117), .int (xs (i + 1)), .int (xs (i + 2))] (zm μ1 g9) (.inl (some (.int v)), zm μ2 g9)) (c3 : μ2 117 0 = nI 0) (kk : ∀ g2 u9 us9, u9 ≤ u + 8 → us9 ≤ us + 40 → zV true (L, xs) kL_law 0 o 1835 [.ref (0), .ref (1), .ref (117), .ref (145), .int (nI i), .null, .null] [] (zm μ2 g2) u9 us9) : zV true (L, xs) kL_law 0 o 1699 [.ref (0), .ref (1), .ref (117), .ref (145), .int (nI i), .null, .null] [] (zm μ g) u us := by
  refine z_aload_n rfl rfl dL_law_1699 ?_
  refine z_aload_n rfl rfl dL_law_1700 ?_
  refine z_iload rfl dL_law_1701 ?_
  refine z_iconst (nI 1) (by decide) dL_law_1703 ?_
  refine m_addN dL_law_1704 ?_
  refine m_sld (i + 1) (by omega) (by omega) dL_law_1705 ?_
  refine z_aload_n rfl rfl dL_law_1706 ?_
  refine z_iload rfl dL_law_1707 ?_
  refine z_iconst (nI 2) (by decide) dL_law_1709 ?_
  refine m_addN dL_law_1710 ?_
  refine m_sld (i + 2) (by omega) (by omega) dL_law_1711 ?_
  refine z_aload_n rfl rfl dL_law_1712 ?_
  refine z_callSX (as := [.ref (1), .int (xs (i + 1)), .int (xs (i + 2)), .ref (145)]) (w_kin c1) ko_L_kin kl_L_166 rfl rfl ⟨by decide, by decide, by show u + 2 ≤ 601024; omega, by show us + 12 ≤ 7293034; omega⟩ (Nat.le_of_ble_eq_true rfl) rfl dL_law_1713 ?_
  refine z_istore (by decide) rfl dL_law_1716 ?_
  refine z_aload_n rfl rfl dL_law_1718 ?_
  refine z_aload_n rfl rfl dL_law_1719 ?_
  refine z_iload rfl dL_law_1720 ?_
  refine z_iconst (nI 1) (by decide) dL_law_1722 ?_
  refine m_addN dL_law_1723 ?_
  refine m_sld (i + 1) (by omega) (by omega) dL_law_1724 ?_
  refine z_aload_n rfl rfl dL_law_1725 ?_
  refine z_iload rfl dL_law_1726 ?_
  refine z_iconst (nI 2) (by decide) dL_law_1728 ?_
  refine m_addN dL_law_1729 ?_
  refine m_sld (i + 2) (by omega) (by omega) dL_law_1730 ?_
  refine z_callV (as := [.int (xs (i + 1)), .int (xs (i + 2))]) (c2 _) ko_X8_kin kl_L_168 rfl (zl_a rfl rfl) rfl rfl ⟨by decide, by decide, by show u + 2 ≤ 601024; omega, by show us + 12 ≤ 7293034; omega⟩ (Nat.le_of_ble_eq_true rfl) rfl dL_law_1731 ?_
  refine z_istore (by decide) rfl dL_law_1734 ?_
  refine z_aload_n rfl rfl dL_law_1736 ?_
  refine z_callV (as := []) (ct_thr c3) ko_X8_thrown kl_L_99 rfl (zl_a rfl rfl) rfl rfl ⟨by decide, by decide, by show u + 2 ≤ 601024; omega, by show us + 12 ≤ 7293034; omega⟩ (Nat.le_of_ble_eq_true rfl) rfl dL_law_1737 ?_
  refine z_iload rfl dL_law_1740 ?_
  refine z_icmp_eq 1747 (by decide) dL_law_1742 (fun _ => ?_) (fun h => absurd h (by decide))
  refine z_iload rfl dL_law_1747 ?_
  refine z_if_ne 1764 (by decide) dL_law_1749 (fun h => absurd h (by decide)) (fun _ => ?_)
  refine z_aload_n rfl rfl dL_law_1752 ?_
  refine z_iconst (nI 0) (by decide) dL_law_1753 ?_
  refine z_lald (zl_a rfl rfl) (vp_in_nI (by decide) (by decide)) dL_law_1754 ?_
  refine z_iload rfl dL_law_1755 ?_
  refine z_i2l dL_law_1757 ?_
  refine z_lcmp dL_law_1758 ?_
  refine m_eqv (w := nI 0) (lg_self _) ?_
  refine z_if_eq 1764 (by decide) dL_law_1759 (fun _ => ?_) (fun h => absurd h (by decide))
  refine z_goto 1835 (by decide) dL_law_1764 ?_
  refine z_fgt [.ref (0), .ref (1), .ref (117), .ref (145), .int (nI i), .null, .null] ⟨Or.inl rfl, ⟨Or.inl rfl, ⟨Or.inl rfl, ⟨Or.inl rfl, ⟨Or.inl rfl, ⟨Or.inr rfl, ⟨Or.inr rfl, trivial⟩⟩⟩⟩⟩⟩⟩ ?_
  exact kk _ _ _ (by show u + 2 ≤ u + 8; omega) (by show us + 12 ≤ us + 40; omega)
set_option maxRecDepth 100000 in
set_option maxHeartbeats 4000000 in
theorem lk_kin_I {L i u us : Nat} {xs : Nat → Int32} {μ μ1 μ2 : zMu} {g : Int64} {w : Int32} {o : zO} (hi : i + 6 ≤ L) (hL : L ≤ 3072) (hu : u + 8 ≤ 601024) (hus : us + 40 ≤ 7293034) (c1 : zCt (L, xs) kX7_kin [.ref (1), .int (xs (i + 1)), .int (xs (i + 2))] (zm μ g) (.inr xI, zm μ g)) (c2 : ∀ g9, zCt (L, xs) kX8_kin [.ref (117), .int (xs (i + 1)), .int (xs (i + 2))] (zm μ g9) (.inl (some (.int w)), zm μ2 g9)) (c3 : μ2 117 0 = nI 1) (kk : ∀ g2 u9 us9, u9 ≤ u + 8 → us9 ≤ us + 40 → zV true (L, xs) kL_law 0 o 1835 [.ref (0), .ref (1), .ref (117), .ref (145), .int (nI i), .null, .null] [] (zm μ2 g2) u9 us9) : zV true (L, xs) kL_law 0 o 1699 [.ref (0), .ref (1), .ref (117), .ref (145), .int (nI i), .null, .null] [] (zm μ g) u us := by
  refine z_aload_n rfl rfl dL_law_1699 ?_
  refine z_aload_n rfl rfl dL_law_1700 ?_
  refine z_iload rfl dL_law_1701 ?_
  refine z_iconst (nI 1) (by decide) dL_law_1703 ?_
  refine m_addN dL_law_1704 ?_
  refine m_sld (i + 1) (by omega) (by omega) dL_law_1705 ?_
  refine z_aload_n rfl rfl dL_law_1706 ?_
  refine z_iload rfl dL_law_1707 ?_
  refine z_iconst (nI 2) (by decide) dL_law_1709 ?_
  refine m_addN dL_law_1710 ?_
  refine m_sld (i + 2) (by omega) (by omega) dL_law_1711 ?_
  refine z_aload_n rfl rfl dL_law_1712 ?_
  refine z_callSX (as := [.ref (1), .int (xs (i + 1)), .int (xs (i + 2)), .ref (145)]) (wI_kin c1) ko_L_kin kl_L_166 rfl rfl ⟨by decide, by decide, by show u + 2 ≤ 601024; omega, by show us + 12 ≤ 7293034; omega⟩ (Nat.le_of_ble_eq_true rfl) rfl dL_law_1713 ?_
  refine z_istore (by decide) rfl dL_law_1716 ?_
  refine z_aload_n rfl rfl dL_law_1718 ?_
  refine z_aload_n rfl rfl dL_law_1719 ?_
  refine z_iload rfl dL_law_1720 ?_
  refine z_iconst (nI 1) (by decide) dL_law_1722 ?_
  refine m_addN dL_law_1723 ?_
  refine m_sld (i + 1) (by omega) (by omega) dL_law_1724 ?_
  refine z_aload_n rfl rfl dL_law_1725 ?_
  refine z_iload rfl dL_law_1726 ?_
  refine z_iconst (nI 2) (by decide) dL_law_1728 ?_
  refine m_addN dL_law_1729 ?_
  refine m_sld (i + 2) (by omega) (by omega) dL_law_1730 ?_
  refine z_callV (as := [.int (xs (i + 1)), .int (xs (i + 2))]) (c2 _) ko_X8_kin kl_L_168 rfl (zl_a rfl rfl) rfl rfl ⟨by decide, by decide, by show u + 2 ≤ 601024; omega, by show us + 12 ≤ 7293034; omega⟩ (Nat.le_of_ble_eq_true rfl) rfl dL_law_1731 ?_
  refine z_istore (by decide) rfl dL_law_1734 ?_
  refine z_aload_n rfl rfl dL_law_1736 ?_
  refine z_callV (as := []) (ct_thr c3) ko_X8_thrown kl_L_99 rfl (zl_a rfl rfl) rfl rfl ⟨by decide, by decide, by show u + 2 ≤ 601024; omega, by show us + 12 ≤ 7293034; omega⟩ (Nat.le_of_ble_eq_true rfl) rfl dL_law_1737 ?_
  refine z_iload rfl dL_law_1740 ?_
  refine z_icmp_eq 1747 (by decide) dL_law_1742 (fun _ => ?_) (fun h => absurd h (by decide))
  refine z_iload rfl dL_law_1747 ?_
  refine z_if_ne 1764 (by decide) dL_law_1749 (fun _ => ?_) (fun h => absurd h (by decide))
  refine z_goto 1835 (by decide) dL_law_1764 ?_
  refine z_fgt [.ref (0), .ref (1), .ref (117), .ref (145), .int (nI i), .null, .null] ⟨Or.inl rfl, ⟨Or.inl rfl, ⟨Or.inl rfl, ⟨Or.inl rfl, ⟨Or.inl rfl, ⟨Or.inr rfl, ⟨Or.inr rfl, trivial⟩⟩⟩⟩⟩⟩⟩ ?_
  exact kk _ _ _ (by show u + 2 ≤ u + 8; omega) (by show us + 12 ≤ us + 40; omega)
set_option maxRecDepth 100000 in
set_option maxHeartbeats 4000000 in
theorem lk_date_ok {L i u us : Nat} {xs : Nat → Int32} {μ μ1 μ2 : zMu} {g : Int64} {v : Int32} {o : zO} (hi : i + 6 ≤ L) (hL : L ≤ 3072) (hu : u + 8 ≤ 601024) (hus : us + 40 ≤ 7293034) (c1 : zCt (L, xs) kX7_date [.ref (1), .int (xs (i + 1)), .int (xs (i + 2))] (zm μ g) (.inl (some (.int v)), zm μ1 g)) (c2 : ∀ g9, zCt (L, xs) kX8_date [.ref (117), .int (xs (i + 1)), .int (xs (i + 2))] (zm μ1 g9) (.inl (some (.int v)), zm μ2 g9)) (c3 : μ2 117 0 = nI 0) (kk : ∀ g2 u9 us9, u9 ≤ u + 8 → us9 ≤ us + 40 → zV true (L, xs) kL_law 0 o 1835 [.ref (0), .ref (1), .ref (117), .ref (145), .int (nI i), .null, .null] [] (zm μ2 g2) u9 us9) : zV true (L, xs) kL_law 0 o 1767 [.ref (0), .ref (1), .ref (117), .ref (145), .int (nI i), .null, .null] [] (zm μ g) u us := by
  refine z_aload_n rfl rfl dL_law_1767 ?_
  refine z_aload_n rfl rfl dL_law_1768 ?_
  refine z_iload rfl dL_law_1769 ?_
  refine z_iconst (nI 1) (by decide) dL_law_1771 ?_
  refine m_addN dL_law_1772 ?_
  refine m_sld (i + 1) (by omega) (by omega) dL_law_1773 ?_
  refine z_aload_n rfl rfl dL_law_1774 ?_
  refine z_iload rfl dL_law_1775 ?_
  refine z_iconst (nI 2) (by decide) dL_law_1777 ?_
  refine m_addN dL_law_1778 ?_
  refine m_sld (i + 2) (by omega) (by omega) dL_law_1779 ?_
  refine z_aload_n rfl rfl dL_law_1780 ?_
  refine z_callSX (as := [.ref (1), .int (xs (i + 1)), .int (xs (i + 2)), .ref (145)]) (w_date c1) ko_L_date kl_L_169 rfl rfl ⟨by decide, by decide, by show u + 2 ≤ 601024; omega, by show us + 12 ≤ 7293034; omega⟩ (Nat.le_of_ble_eq_true rfl) rfl dL_law_1781 ?_
  refine z_istore (by decide) rfl dL_law_1784 ?_
  refine z_aload_n rfl rfl dL_law_1786 ?_
  refine z_aload_n rfl rfl dL_law_1787 ?_
  refine z_iload rfl dL_law_1788 ?_
  refine z_iconst (nI 1) (by decide) dL_law_1790 ?_
  refine m_addN dL_law_1791 ?_
  refine m_sld (i + 1) (by omega) (by omega) dL_law_1792 ?_
  refine z_aload_n rfl rfl dL_law_1793 ?_
  refine z_iload rfl dL_law_1794 ?_
  refine z_iconst (nI 2) (by decide) dL_law_1796 ?_
  refine m_addN dL_law_1797 ?_
  refine m_sld (i + 2) (by omega) (by omega) dL_law_1798 ?_
  refine z_callV (as := [.int (xs (i + 1)), .int (xs (i + 2))]) (c2 _) ko_X8_date kl_L_171 rfl (zl_a rfl rfl) rfl rfl ⟨by decide, by decide, by show u + 2 ≤ 601024; omega, by show us + 12 ≤ 7293034; omega⟩ (Nat.le_of_ble_eq_true rfl) rfl dL_law_1799 ?_
  refine z_istore (by decide) rfl dL_law_1802 ?_
  refine z_aload_n rfl rfl dL_law_1804 ?_
  refine z_callV (as := []) (ct_thr c3) ko_X8_thrown kl_L_99 rfl (zl_a rfl rfl) rfl rfl ⟨by decide, by decide, by show u + 2 ≤ 601024; omega, by show us + 12 ≤ 7293034; omega⟩ (Nat.le_of_ble_eq_true rfl) rfl dL_law_1805 ?_
  refine z_iload rfl dL_law_1808 ?_
  refine z_icmp_eq 1815 (by decide) dL_law_1810 (fun _ => ?_) (fun h => absurd h (by decide))
  refine z_iload rfl dL_law_1815 ?_
  refine z_if_ne 1832 (by decide) dL_law_1817 (fun h => absurd h (by decide)) (fun _ => ?_)
  refine z_aload_n rfl rfl dL_law_1820 ?_
  refine z_iconst (nI 0) (by decide) dL_law_1821 ?_
  refine z_lald (zl_a rfl rfl) (vp_in_nI (by decide) (by decide)) dL_law_1822 ?_
  refine z_iload rfl dL_law_1823 ?_
  refine z_i2l dL_law_1825 ?_
  refine z_lcmp dL_law_1826 ?_
  refine m_eqv (w := nI 0) (lg_self _) ?_
  refine z_if_eq 1832 (by decide) dL_law_1827 (fun _ => ?_) (fun h => absurd h (by decide))
  refine z_goto 1835 (by decide) dL_law_1832 ?_
  refine z_fgt [.ref (0), .ref (1), .ref (117), .ref (145), .int (nI i), .null, .null] ⟨Or.inl rfl, ⟨Or.inl rfl, ⟨Or.inl rfl, ⟨Or.inl rfl, ⟨Or.inl rfl, ⟨Or.inr rfl, ⟨Or.inr rfl, trivial⟩⟩⟩⟩⟩⟩⟩ ?_
  exact kk _ _ _ (by show u + 2 ≤ u + 8; omega) (by show us + 12 ≤ us + 40; omega)
set_option maxRecDepth 100000 in
set_option maxHeartbeats 4000000 in
theorem lk_date_I {L i u us : Nat} {xs : Nat → Int32} {μ μ1 μ2 : zMu} {g : Int64} {w : Int32} {o : zO} (hi : i + 6 ≤ L) (hL : L ≤ 3072) (hu : u + 8 ≤ 601024) (hus : us + 40 ≤ 7293034) (c1 : zCt (L, xs) kX7_date [.ref (1), .int (xs (i + 1)), .int (xs (i + 2))] (zm μ g) (.inr xI, zm μ g)) (c2 : ∀ g9, zCt (L, xs) kX8_date [.ref (117), .int (xs (i + 1)), .int (xs (i + 2))] (zm μ g9) (.inl (some (.int w)), zm μ2 g9)) (c3 : μ2 117 0 = nI 1) (kk : ∀ g2 u9 us9, u9 ≤ u + 8 → us9 ≤ us + 40 → zV true (L, xs) kL_law 0 o 1835 [.ref (0), .ref (1), .ref (117), .ref (145), .int (nI i), .null, .null] [] (zm μ2 g2) u9 us9) : zV true (L, xs) kL_law 0 o 1767 [.ref (0), .ref (1), .ref (117), .ref (145), .int (nI i), .null, .null] [] (zm μ g) u us := by
  refine z_aload_n rfl rfl dL_law_1767 ?_
  refine z_aload_n rfl rfl dL_law_1768 ?_
  refine z_iload rfl dL_law_1769 ?_
  refine z_iconst (nI 1) (by decide) dL_law_1771 ?_
  refine m_addN dL_law_1772 ?_
  refine m_sld (i + 1) (by omega) (by omega) dL_law_1773 ?_
  refine z_aload_n rfl rfl dL_law_1774 ?_
  refine z_iload rfl dL_law_1775 ?_
  refine z_iconst (nI 2) (by decide) dL_law_1777 ?_
  refine m_addN dL_law_1778 ?_
  refine m_sld (i + 2) (by omega) (by omega) dL_law_1779 ?_
  refine z_aload_n rfl rfl dL_law_1780 ?_
  refine z_callSX (as := [.ref (1), .int (xs (i + 1)), .int (xs (i + 2)), .ref (145)]) (wI_date c1) ko_L_date kl_L_169 rfl rfl ⟨by decide, by decide, by show u + 2 ≤ 601024; omega, by show us + 12 ≤ 7293034; omega⟩ (Nat.le_of_ble_eq_true rfl) rfl dL_law_1781 ?_
  refine z_istore (by decide) rfl dL_law_1784 ?_
  refine z_aload_n rfl rfl dL_law_1786 ?_
  refine z_aload_n rfl rfl dL_law_1787 ?_
  refine z_iload rfl dL_law_1788 ?_
  refine z_iconst (nI 1) (by decide) dL_law_1790 ?_
  refine m_addN dL_law_1791 ?_
  refine m_sld (i + 1) (by omega) (by omega) dL_law_1792 ?_
  refine z_aload_n rfl rfl dL_law_1793 ?_
  refine z_iload rfl dL_law_1794 ?_
  refine z_iconst (nI 2) (by decide) dL_law_1796 ?_
  refine m_addN dL_law_1797 ?_
  refine m_sld (i + 2) (by omega) (by omega) dL_law_1798 ?_
  refine z_callV (as := [.int (xs (i + 1)), .int (xs (i + 2))]) (c2 _) ko_X8_date kl_L_171 rfl (zl_a rfl rfl) rfl rfl ⟨by decide, by decide, by show u + 2 ≤ 601024; omega, by show us + 12 ≤ 7293034; omega⟩ (Nat.le_of_ble_eq_true rfl) rfl dL_law_1799 ?_
  refine z_istore (by decide) rfl dL_law_1802 ?_
  refine z_aload_n rfl rfl dL_law_1804 ?_
  refine z_callV (as := []) (ct_thr c3) ko_X8_thrown kl_L_99 rfl (zl_a rfl rfl) rfl rfl ⟨by decide, by decide, by show u + 2 ≤ 601024; omega, by show us + 12 ≤ 7293034; omega⟩ (Nat.le_of_ble_eq_true rfl) rfl dL_law_1805 ?_
  refine z_iload rfl dL_law_1808 ?_
  refine z_icmp_eq 1815 (by decide) dL_law_1810 (fun _ => ?_) (fun h => absurd h (by decide))
  refine z_iload rfl dL_law_1815 ?_
  refine z_if_ne 1832 (by decide) dL_law_1817 (fun _ => ?_) (fun h => absurd h (by decide))
  refine z_goto 1835 (by decide) dL_law_1832 ?_
  refine z_fgt [.ref (0), .ref (1), .ref (117), .ref (145), .int (nI i), .null, .null] ⟨Or.inl rfl, ⟨Or.inl rfl, ⟨Or.inl rfl, ⟨Or.inl rfl, ⟨Or.inl rfl, ⟨Or.inr rfl, ⟨Or.inr rfl, trivial⟩⟩⟩⟩⟩⟩⟩ ?_
  exact kk _ _ _ (by show u + 2 ≤ u + 8; omega) (by show us + 12 ≤ us + 40; omega)
