/-! the reference: copy (printed by wip/whole/gen_j.py) -/
set_option maxRecDepth 100000 in
set_option maxHeartbeats 4000000 in
theorem lp1_X8_copy {E : Nat × (Nat → Int32)} {g : Int64} {μ : zMu} {c nc q : Nat} (hc : c < nc) (hn : nc < 12) (hq : q < 4) {way y : Int32} {O : zO} {nm : Nat → Nat} (kk : zV false E kX8_copy 145 O 251 [.ref (117), .int (nI c), .int (nI q), .int (way), .int (y), .null, .null, .null, .null, .null] [] (zm (zit (dcp c nc q nm way) 0 24 μ) g) 0 0) : ∀ (n : Nat) (m : Nat) (ν : zMu), 24 - m = n → m ≤ 24 → ν = zit (dcp c nc q nm way) 0 m (μ) → (∀ i, i < 24 → ν 133 (24 * c + i) = nI (nm i) ∧ nm i < 100) → (∀ i, i < 288 → ν 130 i = 0 ∨ ν 130 i = 1) → ν 117 13 = nI nc → zV false E kX8_copy 145 O 110 [.ref (117), .int (nI c), .int (nI q), .int (way), .int (y), .null, .null, .int (nI m), .null, .null] [] (zm ν g) 0 0 := by
  intro n
  induction n using Nat.strongRecOn with
  | ind n ih =>
    intro m ν hm hle hs hnm hB hnc
    refine z_iload rfl dX8_copy_110 ?_
    refine z_bipush (nI 24) (by decide) dX8_copy_112 ?_
    refine z_icmp_ge 251 (by decide) dX8_copy_114 (z_br (zcn (n := 24) (by omega) (m) (by omega)).2.2 (fun h1 => ?_)) (z_brn (zcn (n := 24) (by omega) (m) (by omega)).2.2 (fun h2 => ?_))
    · have hmL : m = 24 := by omega
      have hz : zit (dcp c nc q nm way) 0 24 (μ) = ν := by rw [hs, hmL]
      rw [hz] at kk
      refine z_fgt [.ref (117), .int (nI c), .int (nI q), .int (way), .int (y), .null, .null, .null, .null, .null] ⟨Or.inl rfl, ⟨Or.inl rfl, ⟨Or.inl rfl, ⟨Or.inl rfl, ⟨Or.inl rfl, ⟨Or.inl rfl, ⟨Or.inl rfl, ⟨Or.inr rfl, ⟨Or.inl rfl, ⟨Or.inl rfl, trivial⟩⟩⟩⟩⟩⟩⟩⟩⟩⟩ ?_
      exact kk
    · have hn9 := (hnm m (by omega)).1
      have hn2 := (hnm m (by omega)).2
      refine z_iload_n rfl rfl dX8_copy_117 ?_
      refine z_iload rfl dX8_copy_118 ?_
      refine z_callS (as := [.int (nI c), .int (nI m)]) (ct_X8_spot (c) (m)) ko_X8_spot kl_X8_122 rfl rfl ⟨by decide, by decide, by decide, by decide⟩ (Nat.le_of_ble_eq_true rfl) rfl dX8_copy_120 ?_
      refine z_istore (by decide) rfl dX8_copy_123 ?_
      refine z_aload_n rfl rfl dX8_copy_125 ?_
      refine m_getI kf_X8_100 (zl_a rfl rfl) rfl dX8_copy_126 ?_
      refine m_eqv (w := nI nc) (hnc) ?_
      refine z_iload rfl dX8_copy_129 ?_
      refine z_callS (as := [.int (nI nc), .int (nI m)]) (ct_X8_spot (nc) (m)) ko_X8_spot kl_X8_122 rfl rfl ⟨by decide, by decide, by decide, by decide⟩ (Nat.le_of_ble_eq_true rfl) rfl dX8_copy_131 ?_
      refine z_istore (by decide) rfl dX8_copy_134 ?_
      refine z_aload_n rfl rfl dX8_copy_136 ?_
      refine m_getR (130) kf_X8_46 (zl_a rfl rfl) rfl rfl (by decide) dX8_copy_137 ?_
      refine z_iload rfl dX8_copy_140 ?_
      refine z_aload_n rfl rfl dX8_copy_142 ?_
      refine m_getR (130) kf_X8_46 (zl_a rfl rfl) rfl rfl (by decide) dX8_copy_143 ?_
      refine z_iload rfl dX8_copy_146 ?_
      refine m_zald (24 * c + m) (zl_a rfl rfl) rfl (by omega) (by decide) dX8_copy_148 ?_
      refine m_zast (24 * nc + m) (zl_a rfl rfl) rfl (by omega) (by decide) (hB _ (by omega)) dX8_copy_149 ?_
      refine z_aload_n rfl rfl dX8_copy_150 ?_
      refine m_getR (131) kf_X8_50 (zl_a rfl rfl) rfl rfl (by decide) dX8_copy_151 ?_
      refine z_iload rfl dX8_copy_154 ?_
      refine z_aload_n rfl rfl dX8_copy_156 ?_
      refine m_getR (131) kf_X8_50 (zl_a rfl rfl) rfl rfl (by decide) dX8_copy_157 ?_
      refine z_iload rfl dX8_copy_160 ?_
      refine m_iald (24 * c + m) (zl_a rfl rfl) rfl (by omega) (by decide) dX8_copy_162 ?_
      refine z_iload_n rfl rfl dX8_copy_163 ?_
      refine z_aload_n rfl rfl dX8_copy_164 ?_
      refine m_getR (135) kf_X8_62 (zl_a rfl rfl) rfl rfl (by decide) dX8_copy_165 ?_
      refine z_iload_n rfl rfl dX8_copy_168 ?_
      refine m_iald (q) (zl_a rfl rfl) rfl (by omega) (by decide) dX8_copy_169 ?_
      refine z_callS (as := [.int ((zu ν (130) (24 * nc + m) (ν (130) (24 * c + m))) (131) (24 * c + m)), .int (way), .int ((zu ν (130) (24 * nc + m) (ν (130) (24 * c + m))) (135) (q))]) (ct_X8_made ((zu ν (130) (24 * nc + m) (ν (130) (24 * c + m))) (131) (24 * c + m)) (way) ((zu ν (130) (24 * nc + m) (ν (130) (24 * c + m))) (135) (q))) ko_X8_made kl_X8_139 rfl rfl ⟨by decide, by decide, by decide, by decide⟩ (Nat.le_of_ble_eq_true rfl) rfl dX8_copy_170 ?_
      refine m_iast (24 * nc + m) (zl_a rfl rfl) rfl (by omega) (by decide) dX8_copy_173 ?_
      refine z_aload_n rfl rfl dX8_copy_174 ?_
      refine m_getR (132) kf_X8_53 (zl_a rfl rfl) rfl rfl (by decide) dX8_copy_175 ?_
      refine z_iload rfl dX8_copy_178 ?_
      refine z_aload_n rfl rfl dX8_copy_180 ?_
      refine m_getR (132) kf_X8_53 (zl_a rfl rfl) rfl rfl (by decide) dX8_copy_181 ?_
      refine z_iload rfl dX8_copy_184 ?_
      refine m_iald (24 * c + m) (zl_a rfl rfl) rfl (by omega) (by decide) dX8_copy_186 ?_
      refine z_iload_n rfl rfl dX8_copy_187 ?_
      refine z_aload_n rfl rfl dX8_copy_188 ?_
      refine m_getR (135) kf_X8_62 (zl_a rfl rfl) rfl rfl (by decide) dX8_copy_189 ?_
      refine z_iload_n rfl rfl dX8_copy_192 ?_
      refine m_iald (q) (zl_a rfl rfl) rfl (by omega) (by decide) dX8_copy_193 ?_
      refine z_ineg dX8_copy_194 ?_
      refine z_callS (as := [.int ((zu (zu ν (130) (24 * nc + m) (ν (130) (24 * c + m))) (131) (24 * nc + m) (zmade ((zu ν (130) (24 * nc + m) (ν (130) (24 * c + m))) (131) (24 * c + m)) (way) ((zu ν (130) (24 * nc + m) (ν (130) (24 * c + m))) (135) (q)))) (132) (24 * c + m)), .int (way), .int (-((zu (zu ν (130) (24 * nc + m) (ν (130) (24 * c + m))) (131) (24 * nc + m) (zmade ((zu ν (130) (24 * nc + m) (ν (130) (24 * c + m))) (131) (24 * c + m)) (way) ((zu ν (130) (24 * nc + m) (ν (130) (24 * c + m))) (135) (q)))) (135) (q)))]) (ct_X8_made ((zu (zu ν (130) (24 * nc + m) (ν (130) (24 * c + m))) (131) (24 * nc + m) (zmade ((zu ν (130) (24 * nc + m) (ν (130) (24 * c + m))) (131) (24 * c + m)) (way) ((zu ν (130) (24 * nc + m) (ν (130) (24 * c + m))) (135) (q)))) (132) (24 * c + m)) (way) (-((zu (zu ν (130) (24 * nc + m) (ν (130) (24 * c + m))) (131) (24 * nc + m) (zmade ((zu ν (130) (24 * nc + m) (ν (130) (24 * c + m))) (131) (24 * c + m)) (way) ((zu ν (130) (24 * nc + m) (ν (130) (24 * c + m))) (135) (q)))) (135) (q)))) ko_X8_made kl_X8_139 rfl rfl ⟨by decide, by decide, by decide, by decide⟩ (Nat.le_of_ble_eq_true rfl) rfl dX8_copy_195 ?_
      refine m_iast (24 * nc + m) (zl_a rfl rfl) rfl (by omega) (by decide) dX8_copy_198 ?_
      refine z_aload_n rfl rfl dX8_copy_199 ?_
      refine m_getR (133) kf_X8_56 (zl_a rfl rfl) rfl rfl (by decide) dX8_copy_200 ?_
      refine z_iload rfl dX8_copy_203 ?_
      refine z_aload_n rfl rfl dX8_copy_205 ?_
      refine m_getR (136) kf_X8_65 (zl_a rfl rfl) rfl rfl (by decide) dX8_copy_206 ?_
      refine z_bipush (nI 100) (by decide) dX8_copy_209 ?_
      refine z_iload_n rfl rfl dX8_copy_211 ?_
      refine m_mulN dX8_copy_212 ?_
      refine z_aload_n rfl rfl dX8_copy_213 ?_
      refine m_getR (133) kf_X8_56 (zl_a rfl rfl) rfl rfl (by decide) dX8_copy_214 ?_
      refine z_iload rfl dX8_copy_217 ?_
      refine m_iald (24 * c + m) (zl_a rfl rfl) rfl (by omega) (by decide) dX8_copy_219 ?_
      refine m_eqv (w := nI (nm m)) (hn9) ?_
      refine m_addN dX8_copy_220 ?_
      refine m_iald ((100 * q) + (nm m)) (zl_a rfl rfl) rfl (by omega) (by decide) dX8_copy_221 ?_
      refine m_iast (24 * nc + m) (zl_a rfl rfl) rfl (by omega) (by decide) dX8_copy_222 ?_
      refine z_aload_n rfl rfl dX8_copy_223 ?_
      refine m_getR (134) kf_X8_59 (zl_a rfl rfl) rfl rfl (by decide) dX8_copy_224 ?_
      refine z_iload rfl dX8_copy_227 ?_
      refine z_aload_n rfl rfl dX8_copy_229 ?_
      refine m_getR (130) kf_X8_46 (zl_a rfl rfl) rfl rfl (by decide) dX8_copy_230 ?_
      refine z_iload rfl dX8_copy_233 ?_
      refine m_zald (24 * c + m) (zl_a rfl rfl) rfl (by omega) (by decide) dX8_copy_235 ?_
      refine z_if_eq 243 (by decide) dX8_copy_236 (fun h3 => ?_) (fun h4 => ?_)
      · refine z_iconst (-1) (by decide) dX8_copy_243 ?_
        refine m_iast (24 * nc + m) (zl_a rfl rfl) rfl (by omega) (by decide) dX8_copy_244 ?_
        refine z_iinc (nI (m + 1)) rfl (zinc _) (by decide) rfl dX8_copy_245 ?_
        refine z_goto 110 (by decide) dX8_copy_248 ?_
        refine z_fgt [.ref (117), .int (nI c), .int (nI q), .int (way), .int (y), .null, .null, .int (nI (m + 1)), .null, .null] ⟨Or.inl rfl, ⟨Or.inl rfl, ⟨Or.inl rfl, ⟨Or.inl rfl, ⟨Or.inl rfl, ⟨Or.inl rfl, ⟨Or.inl rfl, ⟨Or.inl rfl, ⟨Or.inr rfl, ⟨Or.inr rfl, trivial⟩⟩⟩⟩⟩⟩⟩⟩⟩⟩ ?_
        exact ih (24 - (m + 1)) (by omega) (m + 1) (zu (zu (zu (zu (zu ν (130) (24 * nc + m) (ν (130) (24 * c + m))) (131) (24 * nc + m) (zmade ((zu ν (130) (24 * nc + m) (ν (130) (24 * c + m))) (131) (24 * c + m)) (way) ((zu ν (130) (24 * nc + m) (ν (130) (24 * c + m))) (135) (q)))) (132) (24 * nc + m) (zmade ((zu (zu ν (130) (24 * nc + m) (ν (130) (24 * c + m))) (131) (24 * nc + m) (zmade ((zu ν (130) (24 * nc + m) (ν (130) (24 * c + m))) (131) (24 * c + m)) (way) ((zu ν (130) (24 * nc + m) (ν (130) (24 * c + m))) (135) (q)))) (132) (24 * c + m)) (way) (-((zu (zu ν (130) (24 * nc + m) (ν (130) (24 * c + m))) (131) (24 * nc + m) (zmade ((zu ν (130) (24 * nc + m) (ν (130) (24 * c + m))) (131) (24 * c + m)) (way) ((zu ν (130) (24 * nc + m) (ν (130) (24 * c + m))) (135) (q)))) (135) (q))))) (133) (24 * nc + m) ((zu (zu (zu ν (130) (24 * nc + m) (ν (130) (24 * c + m))) (131) (24 * nc + m) (zmade ((zu ν (130) (24 * nc + m) (ν (130) (24 * c + m))) (131) (24 * c + m)) (way) ((zu ν (130) (24 * nc + m) (ν (130) (24 * c + m))) (135) (q)))) (132) (24 * nc + m) (zmade ((zu (zu ν (130) (24 * nc + m) (ν (130) (24 * c + m))) (131) (24 * nc + m) (zmade ((zu ν (130) (24 * nc + m) (ν (130) (24 * c + m))) (131) (24 * c + m)) (way) ((zu ν (130) (24 * nc + m) (ν (130) (24 * c + m))) (135) (q)))) (132) (24 * c + m)) (way) (-((zu (zu ν (130) (24 * nc + m) (ν (130) (24 * c + m))) (131) (24 * nc + m) (zmade ((zu ν (130) (24 * nc + m) (ν (130) (24 * c + m))) (131) (24 * c + m)) (way) ((zu ν (130) (24 * nc + m) (ν (130) (24 * c + m))) (135) (q)))) (135) (q))))) (136) ((100 * q) + (nm m)))) (134) (24 * nc + m) (-1)) rfl (by omega) (zst0 hs (by unfold dcp dcpa; exact congrArg (zu _ 134 _) (if_pos h3).symm)) (fun i hi => by rw [zu_r (by decide), zu_o2 (by omega), zu_r (by decide), zu_r (by decide), zu_r (by decide)]; exact hnm i hi) (fun i hi => by rw [zu_r (by decide), zu_r (by decide), zu_r (by decide), zu_r (by decide)]; exact zuB hB (hB _ (by omega)) i hi) hnc
      · refine z_iload_n rfl rfl dX8_copy_239 ?_
        refine z_goto 244 (by decide) dX8_copy_240 ?_
        refine m_iast (24 * nc + m) (zl_a rfl rfl) rfl (by omega) (by decide) dX8_copy_244 ?_
        refine z_iinc (nI (m + 1)) rfl (zinc _) (by decide) rfl dX8_copy_245 ?_
        refine z_goto 110 (by decide) dX8_copy_248 ?_
        refine z_fgt [.ref (117), .int (nI c), .int (nI q), .int (way), .int (y), .null, .null, .int (nI (m + 1)), .null, .null] ⟨Or.inl rfl, ⟨Or.inl rfl, ⟨Or.inl rfl, ⟨Or.inl rfl, ⟨Or.inl rfl, ⟨Or.inl rfl, ⟨Or.inl rfl, ⟨Or.inl rfl, ⟨Or.inr rfl, ⟨Or.inr rfl, trivial⟩⟩⟩⟩⟩⟩⟩⟩⟩⟩ ?_
        exact ih (24 - (m + 1)) (by omega) (m + 1) (zu (zu (zu (zu (zu ν (130) (24 * nc + m) (ν (130) (24 * c + m))) (131) (24 * nc + m) (zmade ((zu ν (130) (24 * nc + m) (ν (130) (24 * c + m))) (131) (24 * c + m)) (way) ((zu ν (130) (24 * nc + m) (ν (130) (24 * c + m))) (135) (q)))) (132) (24 * nc + m) (zmade ((zu (zu ν (130) (24 * nc + m) (ν (130) (24 * c + m))) (131) (24 * nc + m) (zmade ((zu ν (130) (24 * nc + m) (ν (130) (24 * c + m))) (131) (24 * c + m)) (way) ((zu ν (130) (24 * nc + m) (ν (130) (24 * c + m))) (135) (q)))) (132) (24 * c + m)) (way) (-((zu (zu ν (130) (24 * nc + m) (ν (130) (24 * c + m))) (131) (24 * nc + m) (zmade ((zu ν (130) (24 * nc + m) (ν (130) (24 * c + m))) (131) (24 * c + m)) (way) ((zu ν (130) (24 * nc + m) (ν (130) (24 * c + m))) (135) (q)))) (135) (q))))) (133) (24 * nc + m) ((zu (zu (zu ν (130) (24 * nc + m) (ν (130) (24 * c + m))) (131) (24 * nc + m) (zmade ((zu ν (130) (24 * nc + m) (ν (130) (24 * c + m))) (131) (24 * c + m)) (way) ((zu ν (130) (24 * nc + m) (ν (130) (24 * c + m))) (135) (q)))) (132) (24 * nc + m) (zmade ((zu (zu ν (130) (24 * nc + m) (ν (130) (24 * c + m))) (131) (24 * nc + m) (zmade ((zu ν (130) (24 * nc + m) (ν (130) (24 * c + m))) (131) (24 * c + m)) (way) ((zu ν (130) (24 * nc + m) (ν (130) (24 * c + m))) (135) (q)))) (132) (24 * c + m)) (way) (-((zu (zu ν (130) (24 * nc + m) (ν (130) (24 * c + m))) (131) (24 * nc + m) (zmade ((zu ν (130) (24 * nc + m) (ν (130) (24 * c + m))) (131) (24 * c + m)) (way) ((zu ν (130) (24 * nc + m) (ν (130) (24 * c + m))) (135) (q)))) (135) (q))))) (136) ((100 * q) + (nm m)))) (134) (24 * nc + m) (nI c)) rfl (by omega) (zst0 hs (by unfold dcp dcpa; exact congrArg (zu _ 134 _) (if_neg h4).symm)) (fun i hi => by rw [zu_r (by decide), zu_o2 (by omega), zu_r (by decide), zu_r (by decide), zu_r (by decide)]; exact hnm i hi) (fun i hi => by rw [zu_r (by decide), zu_r (by decide), zu_r (by decide), zu_r (by decide)]; exact zuB hB (hB _ (by omega)) i hi) hnc
set_option maxRecDepth 100000 in
set_option maxHeartbeats 4000000 in
theorem lp2_X8_copy {E : Nat × (Nat → Int32)} {g : Int64} {μ : zMu} {c nc q : Nat} (hc : c < nc) (hn : nc < 12) (hq : q < 4) {way y : Int32} {O : zO} (kk : zV false E kX8_copy 145 O 291 [.ref (117), .int (nI c), .int (nI q), .int (way), .int (y), .null, .null, .null, .null, .null] [] (zm (zit (dcs c nc) 0 3 μ) g) 0 0) : ∀ (n : Nat) (m : Nat) (ν : zMu), 3 - m = n → m ≤ 3 → ν = zit (dcs c nc) 0 m (μ) → ν 117 13 = nI nc → zV false E kX8_copy 145 O 254 [.ref (117), .int (nI c), .int (nI q), .int (way), .int (y), .null, .null, .int (nI m), .null, .null] [] (zm ν g) 0 0 := by
  intro n
  induction n using Nat.strongRecOn with
  | ind n ih =>
    intro m ν hm hle hs hnc
    refine z_iload rfl dX8_copy_254 ?_
    refine z_iconst (nI 3) (by decide) dX8_copy_256 ?_
    refine z_icmp_ge 291 (by decide) dX8_copy_257 (z_br (zcn (n := 3) (by omega) (m) (by omega)).2.2 (fun h1 => ?_)) (z_brn (zcn (n := 3) (by omega) (m) (by omega)).2.2 (fun h2 => ?_))
    · have hmL : m = 3 := by omega
      have hz : zit (dcs c nc) 0 3 (μ) = ν := by rw [hs, hmL]
      rw [hz] at kk
      refine z_fgt [.ref (117), .int (nI c), .int (nI q), .int (way), .int (y), .null, .null, .null, .null, .null] ⟨Or.inl rfl, ⟨Or.inl rfl, ⟨Or.inl rfl, ⟨Or.inl rfl, ⟨Or.inl rfl, ⟨Or.inl rfl, ⟨Or.inl rfl, ⟨Or.inr rfl, ⟨Or.inl rfl, ⟨Or.inl rfl, trivial⟩⟩⟩⟩⟩⟩⟩⟩⟩⟩ ?_
      exact kk
    · refine z_aload_n rfl rfl dX8_copy_260 ?_
      refine m_getR (129) kf_X8_43 (zl_a rfl rfl) rfl rfl (by decide) dX8_copy_261 ?_
      refine z_iconst (nI 3) (by decide) dX8_copy_264 ?_
      refine z_aload_n rfl rfl dX8_copy_265 ?_
      refine m_getI kf_X8_100 (zl_a rfl rfl) rfl dX8_copy_266 ?_
      refine m_eqv (w := nI nc) (hnc) ?_
      refine m_mulN dX8_copy_269 ?_
      refine z_iload rfl dX8_copy_270 ?_
      refine m_addN dX8_copy_272 ?_
      refine z_aload_n rfl rfl dX8_copy_273 ?_
      refine m_getR (129) kf_X8_43 (zl_a rfl rfl) rfl rfl (by decide) dX8_copy_274 ?_
      refine z_iconst (nI 3) (by decide) dX8_copy_277 ?_
      refine z_iload_n rfl rfl dX8_copy_278 ?_
      refine m_mulN dX8_copy_279 ?_
      refine z_iload rfl dX8_copy_280 ?_
      refine m_addN dX8_copy_282 ?_
      refine m_iald ((3 * c) + m) (zl_a rfl rfl) rfl (by omega) (by decide) dX8_copy_283 ?_
      refine m_iast ((3 * nc) + m) (zl_a rfl rfl) rfl (by omega) (by decide) dX8_copy_284 ?_
      refine z_iinc (nI (m + 1)) rfl (zinc _) (by decide) rfl dX8_copy_285 ?_
      refine z_goto 254 (by decide) dX8_copy_288 ?_
      exact ih (3 - (m + 1)) (by omega) (m + 1) (zu ν (129) ((3 * nc) + m) (ν (129) ((3 * c) + m))) rfl (by omega) (zst0 hs (rfl)) hnc
set_option maxRecDepth 100000 in
set_option maxHeartbeats 4000000 in
theorem lp3_X8_copy {E : Nat × (Nat → Int32)} {g : Int64} {μ : zMu} {c nc q : Nat} (hc : c < nc) (hn : nc < 12) (hq : q < 4) {way y : Int32} {O : zO} {ni : Nat} (hi20 : ni ≤ 20) (kk : zV false E kX8_copy 145 O 336 [.ref (117), .int (nI c), .int (nI q), .int (way), .int (y), .null, .null, .null, .null, .null] [] (zm (zit (dci c nc) 0 ni μ) g) 0 0) : ∀ (n : Nat) (m : Nat) (ν : zMu), ni - m = n → m ≤ ni → ν = zit (dci c nc) 0 m (μ) → (∀ i, i < 240 → ν 140 i = 0 ∨ ν 140 i = 1) → ν 117 13 = nI nc → ν 117 23 = nI ni → zV false E kX8_copy 145 O 294 [.ref (117), .int (nI c), .int (nI q), .int (way), .int (y), .null, .null, .int (nI m), .null, .null] [] (zm ν g) 0 0 := by
  intro n
  induction n using Nat.strongRecOn with
  | ind n ih =>
    intro m ν hm hle hs hBi hnc hni
    refine z_iload rfl dX8_copy_294 ?_
    refine z_aload_n rfl rfl dX8_copy_296 ?_
    refine m_getI kf_X8_103 (zl_a rfl rfl) rfl dX8_copy_297 ?_
    refine m_eqv (w := nI ni) (hni) ?_
    refine z_icmp_ge 336 (by decide) dX8_copy_300 (z_br (zcn (n := ni) (by omega) (m) (by omega)).2.2 (fun h1 => ?_)) (z_brn (zcn (n := ni) (by omega) (m) (by omega)).2.2 (fun h2 => ?_))
    · have hmL : m = ni := by omega
      have hz : zit (dci c nc) 0 ni (μ) = ν := by rw [hs, hmL]
      rw [hz] at kk
      refine z_fgt [.ref (117), .int (nI c), .int (nI q), .int (way), .int (y), .null, .null, .null, .null, .null] ⟨Or.inl rfl, ⟨Or.inl rfl, ⟨Or.inl rfl, ⟨Or.inl rfl, ⟨Or.inl rfl, ⟨Or.inl rfl, ⟨Or.inl rfl, ⟨Or.inr rfl, ⟨Or.inl rfl, ⟨Or.inl rfl, trivial⟩⟩⟩⟩⟩⟩⟩⟩⟩⟩ ?_
      exact kk
    · refine z_aload_n rfl rfl dX8_copy_303 ?_
      refine m_getR (140) kf_X8_77 (zl_a rfl rfl) rfl rfl (by decide) dX8_copy_304 ?_
      refine z_bipush (nI 20) (by decide) dX8_copy_307 ?_
      refine z_aload_n rfl rfl dX8_copy_309 ?_
      refine m_getI kf_X8_100 (zl_a rfl rfl) rfl dX8_copy_310 ?_
      refine m_eqv (w := nI nc) (hnc) ?_
      refine m_mulN dX8_copy_313 ?_
      refine z_iload rfl dX8_copy_314 ?_
      refine m_addN dX8_copy_316 ?_
      refine z_aload_n rfl rfl dX8_copy_317 ?_
      refine m_getR (140) kf_X8_77 (zl_a rfl rfl) rfl rfl (by decide) dX8_copy_318 ?_
      refine z_bipush (nI 20) (by decide) dX8_copy_321 ?_
      refine z_iload_n rfl rfl dX8_copy_323 ?_
      refine m_mulN dX8_copy_324 ?_
      refine z_iload rfl dX8_copy_325 ?_
      refine m_addN dX8_copy_327 ?_
      refine m_zald ((20 * c) + m) (zl_a rfl rfl) rfl (by omega) (by decide) dX8_copy_328 ?_
      refine m_zast ((20 * nc) + m) (zl_a rfl rfl) rfl (by omega) (by decide) (hBi _ (by omega)) dX8_copy_329 ?_
      refine z_iinc (nI (m + 1)) rfl (zinc _) (by decide) rfl dX8_copy_330 ?_
      refine z_goto 294 (by decide) dX8_copy_333 ?_
      exact ih (ni - (m + 1)) (by omega) (m + 1) (zu ν (140) ((20 * nc) + m) (ν (140) ((20 * c) + m))) rfl (by omega) (zst0 hs (rfl)) (zuB hBi (hBi _ (by omega))) hnc hni
set_option maxRecDepth 100000 in
set_option maxHeartbeats 4000000 in
theorem rs2_X8_copy {E : Nat × (Nat → Int32)} {μ : Nat → Nat → Int32} {g : Int64} {c nc q : Nat} (hnc : μ 117 13 = nI nc) (hn : nc < 12) {way y : Int32} : zV false E kX8_copy 145 (.inl (some (.int (nI nc))), zm (zu (zu μ 128 nc y) 117 13 (nI (nc + 1))) g) 336 [.ref (117), .int (nI c), .int (nI q), .int (way), .int (y), .null, .null, .null, .null, .null] [] (zm μ g) 0 0 := by
  refine z_aload_n rfl rfl dX8_copy_336 ?_
  refine m_getR (128) kf_X8_40 (zl_a rfl rfl) rfl rfl (by decide) dX8_copy_337 ?_
  refine z_aload_n rfl rfl dX8_copy_340 ?_
  refine m_getI kf_X8_100 (zl_a rfl rfl) rfl dX8_copy_341 ?_
  refine m_eqv (w := nI nc) (hnc) ?_
  refine z_iload rfl dX8_copy_344 ?_
  refine m_iast (nc) (zl_a rfl rfl) rfl (by omega) (by decide) dX8_copy_346 ?_
  refine z_aload_n rfl rfl dX8_copy_347 ?_
  refine z_dup rfl dX8_copy_348 ?_
  refine m_getI kf_X8_100 (zl_a rfl rfl) rfl dX8_copy_349 ?_
  refine m_eqv (w := nI nc) (hnc) ?_
  refine z_iconst (nI 1) (by decide) dX8_copy_352 ?_
  refine m_addN dX8_copy_353 ?_
  refine m_putI kf_X8_100 (zl_a rfl rfl) rfl dX8_copy_354 ?_
  refine z_aload_n rfl rfl dX8_copy_357 ?_
  refine m_getI kf_X8_100 (zl_a rfl rfl) rfl dX8_copy_358 ?_
  refine m_eqv (w := nI (nc + 1)) (rfl) ?_
  refine z_iconst (nI 1) (by decide) dX8_copy_361 ?_
  refine m_subN (by omega) dX8_copy_362 ?_
  exact z_iret (rfl) rfl (znarI _) (by decide) (by decide) dX8_copy_363
set_option maxRecDepth 100000 in
set_option maxHeartbeats 4000000 in
theorem rs1_X8_copy {E : Nat × (Nat → Int32)} {μ : Nat → Nat → Int32} {g : Int64} {c nc q ni : Nat} (hnc : μ 117 13 = nI nc) (hni : μ 117 23 = nI ni) (hi20 : ni ≤ 20) (hc : c < nc) (hn : nc < 12) (hq : q < 4) {way y : Int32} {nm : Nat → Nat} (hnm : ∀ i, i < 24 → μ 133 (24 * c + i) = nI (nm i) ∧ nm i < 100) (hB : ∀ i, i < 288 → μ 130 i = 0 ∨ μ 130 i = 1) (hBi : ∀ i, i < 240 → μ 140 i = 0 ∨ μ 140 i = 1)  : zV false E kX8_copy 145 (.inl (some (.int (nI nc))), zm (dcopy c nc q nm way y ni μ) g) 107 [.ref (117), .int (nI c), .int (nI q), .int (way), .int (y), .null, .null, .null, .null, .null] [] (zm μ g) 0 0 := by
  refine z_iconst (nI 0) (by decide) dX8_copy_107 ?_
  refine z_istore (by decide) rfl dX8_copy_108 ?_
  refine lp1_X8_copy hc hn hq (nm := nm) ?_ _ 0 _ rfl (Nat.zero_le _) rfl hnm hB hnc
  have hnc1 : (zit (dcp c nc q nm way) 0 24 μ) 117 13 = nI nc := (congrFun (zit_keep (dcp_o (by decide)) μ 24) 13).trans hnc
  have hni1 : (zit (dcp c nc q nm way) 0 24 μ) 117 23 = nI ni := (congrFun (zit_keep (dcp_o (by decide)) μ 24) 23).trans hni
  refine z_iconst (nI 0) (by decide) dX8_copy_251 ?_
  refine z_istore (by decide) rfl dX8_copy_252 ?_
  refine lp2_X8_copy (μ := zit (dcp c nc q nm way) 0 24 μ) hc hn hq ?_ _ 0 _ rfl (Nat.zero_le _) rfl hnc1
  have hnc2 : (zit (dcs c nc) 0 3 (zit (dcp c nc q nm way) 0 24 μ)) 117 13 = nI nc := (congrFun (zit_keep (dcs_o (by decide)) _ 3) 13).trans hnc1
  have hni2 : (zit (dcs c nc) 0 3 (zit (dcp c nc q nm way) 0 24 μ)) 117 23 = nI ni := (congrFun (zit_keep (dcs_o (by decide)) _ 3) 23).trans hni1
  refine z_iconst (nI 0) (by decide) dX8_copy_291 ?_
  refine z_istore (by decide) rfl dX8_copy_292 ?_
  refine lp3_X8_copy (μ := zit (dcs c nc) 0 3 (zit (dcp c nc q nm way) 0 24 μ)) hc hn hq hi20 ?_ _ 0 _ rfl (Nat.zero_le _) rfl (fun i hi => by rw [zit_keep (dcs_o (by decide)), zit_keep (dcp_o (by decide))]; exact hBi i hi) hnc2 hni2
  exact rs2_X8_copy (μ := zit (dci c nc) 0 ni (zit (dcs c nc) 0 3 (zit (dcp c nc q nm way) 0 24 μ))) ((congrFun (zit_keep (dci_o (by decide)) _ ni) 13).trans hnc2) hn
set_option maxRecDepth 100000 in
set_option maxHeartbeats 4000000 in
theorem ctx_X8_copy {E : Nat × (Nat → Int32)} {μ : Nat → Nat → Int32} {g : Int64} {nc : Nat} (hnc : μ 117 13 = nI nc) (hn12 : nc ≤ 12) {p q w y : Int32} (hbad : ¬ (zrg nc p ∧ zrg 4 q)) : zCt E kX8_copy [.ref (117), .int (p), .int (q), .int (w), .int (y)] (zm μ g) (.inl (some (.int (nI 0))), zm ((zu μ 117 0 (nI 1))) g) := by
  refine zCt_of ko_X8_copy (Nat.le_of_ble_eq_true rfl) (zas_r (zas_i (zas_i (zas_i (zas_i zas_0))))) ⟨Nat.le_refl _, fun h => absurd h (Nat.lt_irrefl _)⟩ (Nat.le_of_ble_eq_true rfl) ?_
  show zV false E kX8_copy 145 _ 0 [.ref (117), .int (p), .int (q), .int (w), .int (y), .null, .null, .null, .null, .null] [] (zm μ g) 0 0
  refine z_aload_n rfl rfl dX8_copy_0 ?_
  refine z_iload_n rfl rfl dX8_copy_1 ?_
  refine z_callV (as := [.int (p)]) (ctg_X8_isChart hnc hn12 (p)) ko_X8_isChart kl_X8_136 rfl (zl_a rfl rfl) rfl rfl ⟨by decide, by decide, by decide, by decide⟩ (Nat.le_of_ble_eq_true rfl) rfl dX8_copy_2 ?_
  refine z_if_eq 19 (by decide) dX8_copy_5 (z_br zb_0 (fun h1 => ?_)) (z_br zb_n (fun h2 => ?_))
  · refine z_iconst (nI 0) (by decide) dX8_copy_19 ?_
    refine z_istore (by decide) rfl dX8_copy_20 ?_
    refine z_iload rfl dX8_copy_22 ?_
    refine z_if_eq 59 (by decide) dX8_copy_24 (fun _ => ?_) (fun h => absurd h (by decide))
    refine z_iconst (nI 0) (by decide) dX8_copy_59 ?_
    refine z_istore (by decide) rfl dX8_copy_60 ?_
    refine z_aload_n rfl rfl dX8_copy_62 ?_
    refine z_iload rfl dX8_copy_63 ?_
    refine z_if_ne 72 (by decide) dX8_copy_65 (fun h => absurd h (by decide)) (fun _ => ?_)
    refine z_iconst (nI 1) (by decide) dX8_copy_68 ?_
    refine z_goto 95 (by decide) dX8_copy_69 ?_
    refine m_putI kf_X8_92 (zl_a rfl rfl) rfl dX8_copy_95 ?_
    refine z_aload_n rfl rfl dX8_copy_98 ?_
    refine m_getI kf_X8_92 (zl_a rfl rfl) rfl dX8_copy_99 ?_
    refine m_eqv (w := nI 1) (rfl) ?_
    refine z_if_le 107 (by decide) dX8_copy_102 (fun h => absurd h (by decide)) (fun _ => ?_)
    refine z_iconst (nI 0) (by decide) dX8_copy_105 ?_
    exact z_iret (rfl) rfl (znarI _) (by decide) (by decide) dX8_copy_106
  · refine z_iload_n rfl rfl dX8_copy_8 ?_
    refine z_callS (as := [.int (q)]) (ctg_X8_isCopyist (q)) ko_X8_isCopyist kl_X8_133 rfl rfl ⟨by decide, by decide, by decide, by decide⟩ (Nat.le_of_ble_eq_true rfl) rfl dX8_copy_9 ?_
    refine z_if_eq 19 (by decide) dX8_copy_12 (z_br zb_0 (fun h3 => ?_)) (z_br zb_n (fun h4 => ?_))
    · refine z_iconst (nI 0) (by decide) dX8_copy_19 ?_
      refine z_istore (by decide) rfl dX8_copy_20 ?_
      refine z_iload rfl dX8_copy_22 ?_
      refine z_if_eq 59 (by decide) dX8_copy_24 (fun _ => ?_) (fun h => absurd h (by decide))
      refine z_iconst (nI 0) (by decide) dX8_copy_59 ?_
      refine z_istore (by decide) rfl dX8_copy_60 ?_
      refine z_aload_n rfl rfl dX8_copy_62 ?_
      refine z_iload rfl dX8_copy_63 ?_
      refine z_if_ne 72 (by decide) dX8_copy_65 (fun h => absurd h (by decide)) (fun _ => ?_)
      refine z_iconst (nI 1) (by decide) dX8_copy_68 ?_
      refine z_goto 95 (by decide) dX8_copy_69 ?_
      refine m_putI kf_X8_92 (zl_a rfl rfl) rfl dX8_copy_95 ?_
      refine z_aload_n rfl rfl dX8_copy_98 ?_
      refine m_getI kf_X8_92 (zl_a rfl rfl) rfl dX8_copy_99 ?_
      refine m_eqv (w := nI 1) (rfl) ?_
      refine z_if_le 107 (by decide) dX8_copy_102 (fun h => absurd h (by decide)) (fun _ => ?_)
      refine z_iconst (nI 0) (by decide) dX8_copy_105 ?_
      exact z_iret (rfl) rfl (znarI _) (by decide) (by decide) dX8_copy_106
    · exact absurd (by repeat' (first | assumption | apply And.intro)) hbad
set_option maxRecDepth 100000 in
set_option maxHeartbeats 4000000 in
theorem ct_X8_copy {E : Nat × (Nat → Int32)} {μ : Nat → Nat → Int32} {g : Int64} {nc : Nat} (hnc : μ 117 13 = nI nc) (hn12 : nc ≤ 12) {ni : Nat} (hni : μ 117 23 = nI ni) (hi20 : ni ≤ 20) {c q : Nat} (hc : c < nc) (hq : q < 4) {way y : Int32} {nm : Nat → Nat} (hnm : ∀ i, i < 24 → μ 133 (24 * c + i) = nI (nm i) ∧ nm i < 100) (hB : ∀ i, i < 288 → μ 130 i = 0 ∨ μ 130 i = 1) (hBi : ∀ i, i < 240 → μ 140 i = 0 ∨ μ 140 i = 1)  : zCt E kX8_copy [.ref (117), .int (nI c), .int (nI q), .int (way), .int (y)] (zm μ g) (if ¬ (zrg 3 way ∧ zyr y ∧ ¬ y < μ 128 c) then (.inl (some (.int (nI 0))), zm ((zu μ 117 0 (nI 2))) g) else if ¬ nc < 12 then (.inl (some (.int (nI 0))), zm ((zu μ 117 0 (nI 3))) g) else (.inl (some (.int (nI nc))), zm (dcopy c nc q nm way y ni (zu μ 117 0 (nI 0))) g) : zO) := by
  refine zCt_of ko_X8_copy (Nat.le_of_ble_eq_true rfl) (zas_r (zas_i (zas_i (zas_i (zas_i zas_0))))) (zMM (zifn rfl (zifn rfl rfl))) (Nat.le_of_ble_eq_true rfl) ?_
  show zV false E kX8_copy 145 _ 0 [.ref (117), .int (nI c), .int (nI q), .int (way), .int (y), .null, .null, .null, .null, .null] [] (zm μ g) 0 0
  refine z_aload_n rfl rfl dX8_copy_0 ?_
  refine z_iload_n rfl rfl dX8_copy_1 ?_
  refine z_callV (as := [.int (nI c)]) (ct_X8_isChart hnc hn12 (j := c) (by omega)) ko_X8_isChart kl_X8_136 rfl (zl_a rfl rfl) rfl rfl ⟨by decide, by decide, by decide, by decide⟩ (Nat.le_of_ble_eq_true rfl) rfl dX8_copy_2 ?_
  refine z_if_eq 19 (by decide) dX8_copy_5 (fun h => absurd h (by decide)) (fun _ => ?_)
  refine z_iload_n rfl rfl dX8_copy_8 ?_
  refine z_callS (as := [.int (nI q)]) (ct_X8_isCopyist (j := q) (by omega)) ko_X8_isCopyist kl_X8_133 rfl rfl ⟨by decide, by decide, by decide, by decide⟩ (Nat.le_of_ble_eq_true rfl) rfl dX8_copy_9 ?_
  refine z_if_eq 19 (by decide) dX8_copy_12 (fun h => absurd h (by decide)) (fun _ => ?_)
  refine z_iconst (nI 1) (by decide) dX8_copy_15 ?_
  refine z_goto 20 (by decide) dX8_copy_16 ?_
  refine z_istore (by decide) rfl dX8_copy_20 ?_
  refine z_iload rfl dX8_copy_22 ?_
  refine z_if_eq 59 (by decide) dX8_copy_24 (fun h => absurd h (by decide)) (fun _ => ?_)
  refine z_iload_n rfl rfl dX8_copy_27 ?_
  refine z_iconst (nI 0) (by decide) dX8_copy_28 ?_
  refine z_iconst (nI 2) (by decide) dX8_copy_29 ?_
  refine z_callS (as := [.int (way), .int (nI 0), .int (nI 2)]) (ct_X8_isInZ (way) 2 (by decide)) ko_X8_isIn kl_X8_96 rfl rfl ⟨by decide, by decide, by decide, by decide⟩ (Nat.le_of_ble_eq_true rfl) rfl dX8_copy_30 ?_
  refine z_if_eq 59 (by decide) dX8_copy_33 (z_br zb_0 (fun h1 => ?_)) (z_br zb_n (fun h2 => ?_))
  · refine z_iconst (nI 0) (by decide) dX8_copy_59 ?_
    refine z_istore (by decide) rfl dX8_copy_60 ?_
    refine z_aload_n rfl rfl dX8_copy_62 ?_
    refine z_iload rfl dX8_copy_63 ?_
    refine z_if_ne 72 (by decide) dX8_copy_65 (fun _ => ?_) (fun h => absurd h (by decide))
    refine z_iload rfl dX8_copy_72 ?_
    refine z_if_ne 81 (by decide) dX8_copy_74 (fun h => absurd h (by decide)) (fun _ => ?_)
    refine z_iconst (nI 2) (by decide) dX8_copy_77 ?_
    refine z_goto 95 (by decide) dX8_copy_78 ?_
    refine m_putI kf_X8_92 (zl_a rfl rfl) rfl dX8_copy_95 ?_
    refine z_aload_n rfl rfl dX8_copy_98 ?_
    refine m_getI kf_X8_92 (zl_a rfl rfl) rfl dX8_copy_99 ?_
    refine m_eqv (w := nI 2) (rfl) ?_
    refine z_if_le 107 (by decide) dX8_copy_102 (fun h => absurd h (by decide)) (fun _ => ?_)
    refine z_iconst (nI 0) (by decide) dX8_copy_105 ?_
    exact z_iret ((if_pos (fun q => by first | exact absurd q.1 (by assumption) | exact q.1 (by assumption) | exact absurd q.2.1 (by assumption) | exact q.2.1 (by assumption) | exact absurd q.2.2 (by assumption) | exact q.2.2 (by assumption))).trans rfl) rfl (znarI _) (by decide) (by decide) dX8_copy_106
  · refine z_iload rfl dX8_copy_36 ?_
    refine z_callS (as := [.int (y)]) (ct_X8_isYear (y)) ko_X8_isYear kl_X8_110 rfl rfl ⟨by decide, by decide, by decide, by decide⟩ (Nat.le_of_ble_eq_true rfl) rfl dX8_copy_38 ?_
    refine z_if_eq 59 (by decide) dX8_copy_41 (z_br zb_0 (fun h3 => ?_)) (z_br zb_n (fun h4 => ?_))
    · refine z_iconst (nI 0) (by decide) dX8_copy_59 ?_
      refine z_istore (by decide) rfl dX8_copy_60 ?_
      refine z_aload_n rfl rfl dX8_copy_62 ?_
      refine z_iload rfl dX8_copy_63 ?_
      refine z_if_ne 72 (by decide) dX8_copy_65 (fun _ => ?_) (fun h => absurd h (by decide))
      refine z_iload rfl dX8_copy_72 ?_
      refine z_if_ne 81 (by decide) dX8_copy_74 (fun h => absurd h (by decide)) (fun _ => ?_)
      refine z_iconst (nI 2) (by decide) dX8_copy_77 ?_
      refine z_goto 95 (by decide) dX8_copy_78 ?_
      refine m_putI kf_X8_92 (zl_a rfl rfl) rfl dX8_copy_95 ?_
      refine z_aload_n rfl rfl dX8_copy_98 ?_
      refine m_getI kf_X8_92 (zl_a rfl rfl) rfl dX8_copy_99 ?_
      refine m_eqv (w := nI 2) (rfl) ?_
      refine z_if_le 107 (by decide) dX8_copy_102 (fun h => absurd h (by decide)) (fun _ => ?_)
      refine z_iconst (nI 0) (by decide) dX8_copy_105 ?_
      exact z_iret ((if_pos (fun q => by first | exact absurd q.1 (by assumption) | exact q.1 (by assumption) | exact absurd q.2.1 (by assumption) | exact q.2.1 (by assumption) | exact absurd q.2.2 (by assumption) | exact q.2.2 (by assumption))).trans rfl) rfl (znarI _) (by decide) (by decide) dX8_copy_106
    · refine z_iload rfl dX8_copy_44 ?_
      refine z_aload_n rfl rfl dX8_copy_46 ?_
      refine m_getR (128) kf_X8_40 (zl_a rfl rfl) rfl rfl (by decide) dX8_copy_47 ?_
      refine z_iload_n rfl rfl dX8_copy_50 ?_
      refine m_iald (c) (zl_a rfl rfl) rfl (by omega) (by decide) dX8_copy_51 ?_
      refine z_icmp_lt 59 (by decide) dX8_copy_52 (fun h5 => ?_) (fun h6 => ?_)
      · refine z_iconst (nI 0) (by decide) dX8_copy_59 ?_
        refine z_istore (by decide) rfl dX8_copy_60 ?_
        refine z_aload_n rfl rfl dX8_copy_62 ?_
        refine z_iload rfl dX8_copy_63 ?_
        refine z_if_ne 72 (by decide) dX8_copy_65 (fun _ => ?_) (fun h => absurd h (by decide))
        refine z_iload rfl dX8_copy_72 ?_
        refine z_if_ne 81 (by decide) dX8_copy_74 (fun h => absurd h (by decide)) (fun _ => ?_)
        refine z_iconst (nI 2) (by decide) dX8_copy_77 ?_
        refine z_goto 95 (by decide) dX8_copy_78 ?_
        refine m_putI kf_X8_92 (zl_a rfl rfl) rfl dX8_copy_95 ?_
        refine z_aload_n rfl rfl dX8_copy_98 ?_
        refine m_getI kf_X8_92 (zl_a rfl rfl) rfl dX8_copy_99 ?_
        refine m_eqv (w := nI 2) (rfl) ?_
        refine z_if_le 107 (by decide) dX8_copy_102 (fun h => absurd h (by decide)) (fun _ => ?_)
        refine z_iconst (nI 0) (by decide) dX8_copy_105 ?_
        exact z_iret ((if_pos (fun q => by first | exact absurd q.1 (by assumption) | exact q.1 (by assumption) | exact absurd q.2.1 (by assumption) | exact q.2.1 (by assumption) | exact absurd q.2.2 (by assumption) | exact q.2.2 (by assumption))).trans rfl) rfl (znarI _) (by decide) (by decide) dX8_copy_106
      · refine z_iconst (nI 1) (by decide) dX8_copy_55 ?_
        refine z_goto 60 (by decide) dX8_copy_56 ?_
        refine z_istore (by decide) rfl dX8_copy_60 ?_
        refine z_aload_n rfl rfl dX8_copy_62 ?_
        refine z_iload rfl dX8_copy_63 ?_
        refine z_if_ne 72 (by decide) dX8_copy_65 (fun _ => ?_) (fun h => absurd h (by decide))
        refine z_iload rfl dX8_copy_72 ?_
        refine z_if_ne 81 (by decide) dX8_copy_74 (fun _ => ?_) (fun h => absurd h (by decide))
        refine z_aload_n rfl rfl dX8_copy_81 ?_
        refine m_getI kf_X8_100 (zl_a rfl rfl) rfl dX8_copy_82 ?_
        refine m_eqv (w := nI nc) (hnc) ?_
        refine z_bipush (nI 12) (by decide) dX8_copy_85 ?_
        refine z_icmp_ne 94 (by decide) dX8_copy_87 (z_brn (zcn (n := nc) (by omega) (12) (by omega)).1 (fun h7 => ?_)) (z_br (zcn (n := nc) (by omega) (12) (by omega)).1 (fun h8 => ?_))
        · refine z_iconst (nI 0) (by decide) dX8_copy_94 ?_
          refine m_putI kf_X8_92 (zl_a rfl rfl) rfl dX8_copy_95 ?_
          refine z_aload_n rfl rfl dX8_copy_98 ?_
          refine m_getI kf_X8_92 (zl_a rfl rfl) rfl dX8_copy_99 ?_
          refine m_eqv (w := nI 0) (rfl) ?_
          refine z_if_le 107 (by decide) dX8_copy_102 (fun _ => ?_) (fun h => absurd h (by decide))
          refine z_oeq ((if_neg (fun q => q ⟨by assumption, by assumption, by assumption⟩)).trans ((if_neg (by omega)).trans rfl)) ?_
          refine z_fgt [.ref (117), .int (nI c), .int (nI q), .int (way), .int (y), .null, .null, .null, .null, .null] ⟨Or.inl rfl, ⟨Or.inl rfl, ⟨Or.inl rfl, ⟨Or.inl rfl, ⟨Or.inl rfl, ⟨Or.inr rfl, ⟨Or.inr rfl, ⟨Or.inl rfl, ⟨Or.inl rfl, ⟨Or.inl rfl, trivial⟩⟩⟩⟩⟩⟩⟩⟩⟩⟩ ?_
          exact rs1_X8_copy (μ := (zu μ 117 0 (nI 0))) hnc hni hi20 hc (by omega) hq (nm := nm) (fun i hi => hnm i hi) hB hBi
        · refine z_iconst (nI 3) (by decide) dX8_copy_90 ?_
          refine z_goto 95 (by decide) dX8_copy_91 ?_
          refine m_putI kf_X8_92 (zl_a rfl rfl) rfl dX8_copy_95 ?_
          refine z_aload_n rfl rfl dX8_copy_98 ?_
          refine m_getI kf_X8_92 (zl_a rfl rfl) rfl dX8_copy_99 ?_
          refine m_eqv (w := nI 3) (rfl) ?_
          refine z_if_le 107 (by decide) dX8_copy_102 (fun h => absurd h (by decide)) (fun _ => ?_)
          refine z_iconst (nI 0) (by decide) dX8_copy_105 ?_
          exact z_iret ((if_neg (fun q => q ⟨by assumption, by assumption, by assumption⟩)).trans ((if_pos (by omega)).trans rfl)) rfl (znarI _) (by decide) (by decide) dX8_copy_106
