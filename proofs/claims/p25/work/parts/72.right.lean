/-! right: whatever holds as what joins them says, it answers true (printed by wip/p25/gen_2.py) -/
theorem chn_s {μ : zMu} {nc c p s : Nat} {l : Int32} (hs : s < 11) (h : l = zchn μ nc c p s) : zchn μ nc c p (s + 1) = zsrc μ nc p l := by
  subst h
  unfold zchn
  by_cases q : zkn μ c p
  · rw [if_neg (fun z => z.elim (by omega) (fun z => z q)), if_neg (fun z => z.elim (by omega) (fun z => z q)), zit_s]
  · rw [if_pos (Or.inr q), if_pos (Or.inr q), zsrc_m]
theorem chn_0 {μ : zMu} {nc c p : Nat} (h : zkn μ c p) : nI c = zchn μ nc c p 0 := by
  unfold zchn
  rw [if_neg (fun z => z.elim (by omega) (fun z => z h))]
  rfl
theorem chn_u {μ : zMu} {nc c p : Nat} (h : ¬ zkn μ c p) : -1 = zchn μ nc c p 0 := by
  unfold zchn
  rw [if_pos (Or.inr h)]
set_option maxRecDepth 100000 in
set_option maxHeartbeats 4000000 in
theorem lp_R3 {E : Nat × (Nat → Int32)} {μ : zMu} {J : Nat → Nat} {ν : zMu} {o : zO} {nc nr ni : Nat} {rf rt : Nat → Nat} (hI : iv μ ν nc nr ni rf rt) {c : Nat} (hc : c < nc)  {p : Nat} (hp : p < 10) {kn : Int32} {U : Nat} (hU : U ≤ 1700) (kk : ∀ u us, u ≤ U + 12 → us ≤ 6 * u → zV false E kL_right 116 o 302 [.ref (1), .ref (J 0), .ref (J 1), .ref (J 2), .ref (J 3), .ref (J 4), .ref (J 5), .int (nI nc), .int (nI c), .int (kn), .int (nI p), .null, .null, .null, .null, .null, .null, .null] [] (zm μ (J, 11, ν)) u us) : ∀ (n : Nat) (s : Nat) (l : Int32) (u us : Nat), 4 - s = n → s ≤ 4 → l = zchn μ nc c p s → (l = -1 ∨ ∃ j, j < nc ∧ l = nI j) → u ≤ U + 3 * s → us ≤ 6 * u → zV false E kL_right 116 o 237 [.ref (1), .ref (J 0), .ref (J 1), .ref (J 2), .ref (J 3), .ref (J 4), .ref (J 5), .int (nI nc), .int (nI c), .int (kn), .int (nI p), .null, .null, .int (l), .int (nI s), .null, .null, .null] [] (zm μ (J, 11, ν)) u us := by
  intro n
  induction n using Nat.strongRecOn with
  | ind n ih =>
    intro s l u us e h4 hl hj hu hus
    obtain ⟨⟨⟨hnc, hn5⟩, -, ⟨hni, hn4⟩⟩, hT, -, -, hB, hK, hA⟩ := id hI
    have hn12 : nc ≤ 12 := by omega
    refine z_iload rfl dL_right_237 ?_
    refine z_iconst (nI 4) (by decide) dL_right_239 ?_
    refine z_icmp_ge 302 (by decide) dL_right_240 (z_br (zcn (n := 4) (by omega) (s) (by omega)).2.2 (fun h240t => ?_)) (z_brn (zcn (n := 4) (by omega) (s) (by omega)).2.2 (fun h240f => ?_))
    · refine z_fgt [.ref (1), .ref (J 0), .ref (J 1), .ref (J 2), .ref (J 3), .ref (J 4), .ref (J 5), .int (nI nc), .int (nI c), .int (kn), .int (nI p), .null, .null, .null, .null, .null, .null, .null] ⟨Or.inl rfl, ⟨Or.inl rfl, ⟨Or.inl rfl, ⟨Or.inl rfl, ⟨Or.inl rfl, ⟨Or.inl rfl, ⟨Or.inl rfl, ⟨Or.inl rfl, ⟨Or.inl rfl, ⟨Or.inl rfl, ⟨Or.inl rfl, ⟨Or.inl rfl, ⟨Or.inl rfl, ⟨Or.inr rfl, ⟨Or.inr rfl, ⟨Or.inl rfl, ⟨Or.inl rfl, ⟨Or.inl rfl, trivial⟩⟩⟩⟩⟩⟩⟩⟩⟩⟩⟩⟩⟩⟩⟩⟩⟩⟩ ?_
      exact kk _ _ (by omega) (by omega)
    · refine z_aload_n rfl rfl dL_right_243 ?_
      refine z_iload rfl dL_right_244 ?_
      refine z_iload rfl dL_right_246 ?_
      refine z_iload rfl dL_right_248 ?_
      refine z_callV (as := [.int (nI c), .int (nI p), .int (nI s)]) (by have h := ct_X7_chain (E := E) (μ := μ) (g := (J, 11, ν)) hnc hn12 (c := c) (by omega) (p := p) (k := s) (by omega) (by omega); rw [← hl] at h; exact h) ko_X7_chain kl_L_27 rfl (zl_a rfl rfl) rfl rfl ⟨by decide, by decide, by show u + 3 ≤ 1760; omega, by show us + 18 ≤ 10560; omega⟩ (Nat.le_of_ble_eq_true rfl) rfl dL_right_250 ?_
      show zV false E kL_right 116 o 253 [.ref (1), .ref (J 0), .ref (J 1), .ref (J 2), .ref (J 3), .ref (J 4), .ref (J 5), .int (nI nc), .int (nI c), .int (kn), .int (nI p), .null, .null, .int (l), .int (nI s), .null, .null, .null] [.int (l)] (zm μ (J, 11, ν)) (u + 3) (us + 18)
      refine z_iload rfl dL_right_253 ?_
      refine z_icmp_eq 260 (by decide) dL_right_255 (fun _ => ?_) (fun h => absurd rfl h)
      rcases hj with rfl | ⟨j, hj2, rfl⟩
      · refine z_iload rfl dL_right_260 ?_
        refine z_if_lt 279 (by decide) dL_right_262 (fun _ => ?_) (fun h => absurd h (by decide))
        refine z_iconst (-1) (by decide) dL_right_279 ?_
        refine z_goto 294 (by decide) dL_right_280 ?_
        refine z_istore (by decide) rfl dL_right_294 ?_
        refine z_iinc (nI (s + 1)) rfl (zincN _ 1) (by decide) rfl dL_right_296 ?_
        refine z_goto 237 (by decide) dL_right_299 ?_
        exact ih (4 - (s + 1)) (by omega) (s + 1) (-1) (u + 3) (us + 18) rfl (by omega) (by rw [chn_s (by omega) hl]; exact zsrc_m.symm) (Or.inl rfl) (by omega) (by omega)
      · refine z_iload rfl dL_right_260 ?_
        refine z_if_lt 279 (by decide) dL_right_262 (fun h => absurd h (nI_pos (n := j) (by omega))) (fun _ => ?_)
        refine z_aload rfl dL_right_265 ?_
        refine z_bipush (nI 10) (by decide) dL_right_267 ?_
        refine z_iload rfl dL_right_269 ?_
        refine m_mulN dL_right_271 ?_
        refine z_iload rfl dL_right_272 ?_
        refine m_addN dL_right_274 ?_
        refine m_xald 3 ((10 * j) + p) 64 rfl (by decide) rfl (by omega) (by decide) dL_right_275 ?_
        refine z_if_ge 283 (by decide) dL_right_276 (fun h276t => ?_) (fun h276f => ?_)
        · refine z_aload rfl dL_right_283 ?_
          refine z_bipush (nI 10) (by decide) dL_right_285 ?_
          refine z_iload rfl dL_right_287 ?_
          refine m_mulN dL_right_289 ?_
          refine z_iload rfl dL_right_290 ?_
          refine m_addN dL_right_292 ?_
          refine m_xald 3 ((10 * j) + p) 64 rfl (by decide) rfl (by omega) (by decide) dL_right_293 ?_
          refine z_istore (by decide) rfl dL_right_294 ?_
          refine z_iinc (nI (s + 1)) rfl (zincN _ 1) (by decide) rfl dL_right_296 ?_
          refine z_goto 237 (by decide) dL_right_299 ?_
          exact ih (4 - (s + 1)) (by omega) (s + 1) (ν 3 ((10 * j) + p)) (u + 3) (us + 18) rfl (by omega) (by rw [chn_s (by omega) hl]; exact ((chain_s hn5 hj2 ((hK j hj2).2.2.1 p hp)).2 (Int32.not_lt.mpr h276t)).1.symm) (Or.inr ((chain_s hn5 hj2 ((hK j hj2).2.2.1 p hp)).2 (Int32.not_lt.mpr h276t)).2) (by omega) (by omega)
        · refine z_iconst (-1) (by decide) dL_right_279 ?_
          refine z_goto 294 (by decide) dL_right_280 ?_
          refine z_istore (by decide) rfl dL_right_294 ?_
          refine z_iinc (nI (s + 1)) rfl (zincN _ 1) (by decide) rfl dL_right_296 ?_
          refine z_goto 237 (by decide) dL_right_299 ?_
          exact ih (4 - (s + 1)) (by omega) (s + 1) (-1) (u + 3) (us + 18) rfl (by omega) (by rw [chn_s (by omega) hl]; exact ((chain_s hn5 hj2 ((hK j hj2).2.2.1 p hp)).1 (Int32.not_le.mp h276f)).symm) (Or.inl rfl) (by omega) (by omega)
set_option maxRecDepth 100000 in
set_option maxHeartbeats 4000000 in
theorem lp_R2 {E : Nat × (Nat → Int32)} {μ : zMu} {J : Nat → Nat} {ν : zMu} {o : zO} {nc nr ni : Nat} {rf rt : Nat → Nat} (hI : iv μ ν nc nr ni rf rt) {c : Nat} (hc : c < nc)  (kk : ∀ u us, u ≤ 352 * c + 300 → us ≤ 6 * u → zV false E kL_right 116 o 308 [.ref (1), .ref (J 0), .ref (J 1), .ref (J 2), .ref (J 3), .ref (J 4), .ref (J 5), .int (nI nc), .int (nI c), .int (zit (ckn μ c) 0 10 (nI 0)), .null, .null, .null, .null, .null, .null, .null, .null] [] (zm μ (J, 11, ν)) u us) : ∀ (n : Nat) (p : Nat) (kn : Int32) (u us : Nat), 10 - p = n → p ≤ 10 → kn = zit (ckn μ c) 0 p (nI 0) → u ≤ 352 * c + 30 * p → us ≤ 6 * u → zV false E kL_right 116 o 16 [.ref (1), .ref (J 0), .ref (J 1), .ref (J 2), .ref (J 3), .ref (J 4), .ref (J 5), .int (nI nc), .int (nI c), .int (kn), .int (nI p), .null, .null, .null, .null, .null, .null, .null] [] (zm μ (J, 11, ν)) u us := by
  intro n
  induction n using Nat.strongRecOn with
  | ind n ih =>
    intro p kn u us e h10 hkn hu hus
    obtain ⟨⟨⟨hnc, hn5⟩, -, ⟨hni, hn4⟩⟩, hT, -, -, hB, hK, hA⟩ := id hI
    have hn12 : nc ≤ 12 := by omega
    refine z_iload rfl dL_right_16 ?_
    refine z_bipush (nI 10) (by decide) dL_right_18 ?_
    refine z_icmp_ge 308 (by decide) dL_right_20 (z_br (zcn (n := 10) (by omega) (p) (by omega)).2.2 (fun h20t => ?_)) (z_brn (zcn (n := 10) (by omega) (p) (by omega)).2.2 (fun h20f => ?_))
    · obtain rfl : p = 10 := by omega
      subst hkn
      refine z_fgt [.ref (1), .ref (J 0), .ref (J 1), .ref (J 2), .ref (J 3), .ref (J 4), .ref (J 5), .int (nI nc), .int (nI c), .int (zit (ckn μ c) 0 10 (nI 0)), .null, .null, .null, .null, .null, .null, .null, .null] ⟨Or.inl rfl, ⟨Or.inl rfl, ⟨Or.inl rfl, ⟨Or.inl rfl, ⟨Or.inl rfl, ⟨Or.inl rfl, ⟨Or.inl rfl, ⟨Or.inl rfl, ⟨Or.inl rfl, ⟨Or.inl rfl, ⟨Or.inr rfl, ⟨Or.inl rfl, ⟨Or.inl rfl, ⟨Or.inl rfl, ⟨Or.inl rfl, ⟨Or.inl rfl, ⟨Or.inl rfl, ⟨Or.inl rfl, trivial⟩⟩⟩⟩⟩⟩⟩⟩⟩⟩⟩⟩⟩⟩⟩⟩⟩⟩ ?_
      exact kk _ _ (by omega) hus
    · refine z_bipush (nI 10) (by decide) dL_right_23 ?_
      refine z_iload rfl dL_right_25 ?_
      refine m_mulN dL_right_27 ?_
      refine z_iload rfl dL_right_28 ?_
      refine m_addN dL_right_30 ?_
      refine z_istore (by decide) rfl dL_right_31 ?_
      have hP := (hK c hc).2.2.1 p (by omega)
      have hq := iP_kn hn5 (by omega) hP
      by_cases hk : ν 3 (10 * c + p) = -2
      · obtain ⟨a0, a1, a2, a3, a4, a5⟩ := at_u hn5 (by omega) hP hk
        refine z_aload rfl dL_right_33 ?_
        refine z_iload rfl dL_right_35 ?_
        refine m_xald 3 ((10 * c) + p) 64 rfl (by decide) rfl (by omega) (by decide) dL_right_37 ?_
        refine z_bipush (-2) (by decide) dL_right_38 ?_
        refine z_icmp_le 47 (by decide) dL_right_40 (fun h40t => ?_) (fun h40f => ((h40f ((iP_le hn5 hP).mpr hk) : False)).elim)
        refine z_iconst (nI 0) (by decide) dL_right_47 ?_
        refine z_istore (by decide) rfl dL_right_48 ?_
        refine z_aload_n rfl rfl dL_right_50 ?_
        refine z_iload rfl dL_right_51 ?_
        refine z_iload rfl dL_right_53 ?_
        refine z_iconst (nI 0) (by decide) dL_right_55 ?_
        refine z_callV (as := [.int (nI c), .int (nI p), .int (nI 0)]) (by have h := ct_X7_at (E := E) (μ := μ) (g := (J, 11, ν)) hnc hn12 (c := c) (by omega) (p := p) (by omega) (w := 0) (by omega); rw [a0] at h; exact h) ko_X7_at kl_L_22 rfl (zl_a rfl rfl) rfl rfl ⟨by decide, by decide, by show u + 3 ≤ 1760; omega, by show us + 18 ≤ 10560; omega⟩ (Nat.le_of_ble_eq_true rfl) rfl dL_right_56 ?_
        show zV false E kL_right 116 o 59 [.ref (1), .ref (J 0), .ref (J 1), .ref (J 2), .ref (J 3), .ref (J 4), .ref (J 5), .int (nI nc), .int (nI c), .int (kn), .int (nI p), .int (nI ((10 * c) + p)), .int (nI 0), .null, .null, .null, .null, .null] [.int (100000)] (zm μ (J, 11, ν)) (u + 3) (us + 18)
        refine z_iload rfl dL_right_59 ?_
        refine z_if_eq 71 (by decide) dL_right_61 (fun _ => ?_) (fun h => absurd h (by decide))
        refine z_ldc (100000) kc_L_26 dL_right_71 ?_
        refine z_icmp_ne 211 (by decide) dL_right_73 (fun h => absurd h (by decide)) (fun _ => ?_)
        refine z_aload_n rfl rfl dL_right_76 ?_
        refine z_iload rfl dL_right_77 ?_
        refine z_iload rfl dL_right_79 ?_
        refine z_iconst (nI 1) (by decide) dL_right_81 ?_
        refine z_callV (as := [.int (nI c), .int (nI p), .int (nI 1)]) (by have h := ct_X7_at (E := E) (μ := μ) (g := (J, 11, ν)) hnc hn12 (c := c) (by omega) (p := p) (by omega) (w := 1) (by omega); rw [a1] at h; exact h) ko_X7_at kl_L_22 rfl (zl_a rfl rfl) rfl rfl ⟨by decide, by decide, by show u + 3 + 3 ≤ 1760; omega, by show us + 18 + 18 ≤ 10560; omega⟩ (Nat.le_of_ble_eq_true rfl) rfl dL_right_82 ?_
        show zV false E kL_right 116 o 85 [.ref (1), .ref (J 0), .ref (J 1), .ref (J 2), .ref (J 3), .ref (J 4), .ref (J 5), .int (nI nc), .int (nI c), .int (kn), .int (nI p), .int (nI ((10 * c) + p)), .int (nI 0), .null, .null, .null, .null, .null] [.int (100000)] (zm μ (J, 11, ν)) (u + 3 + 3) (us + 18 + 18)
        refine z_iload rfl dL_right_85 ?_
        refine z_if_eq 97 (by decide) dL_right_87 (fun _ => ?_) (fun h => absurd h (by decide))
        refine z_ldc (100000) kc_L_26 dL_right_97 ?_
        refine z_icmp_ne 211 (by decide) dL_right_99 (fun h => absurd h (by decide)) (fun _ => ?_)
        refine z_aload_n rfl rfl dL_right_102 ?_
        refine z_iload rfl dL_right_103 ?_
        refine z_iload rfl dL_right_105 ?_
        refine z_iconst (nI 2) (by decide) dL_right_107 ?_
        refine z_callV (as := [.int (nI c), .int (nI p), .int (nI 2)]) (by have h := ct_X7_at (E := E) (μ := μ) (g := (J, 11, ν)) hnc hn12 (c := c) (by omega) (p := p) (by omega) (w := 2) (by omega); rw [a2] at h; exact h) ko_X7_at kl_L_22 rfl (zl_a rfl rfl) rfl rfl ⟨by decide, by decide, by show u + 3 + 3 + 3 ≤ 1760; omega, by show us + 18 + 18 + 18 ≤ 10560; omega⟩ (Nat.le_of_ble_eq_true rfl) rfl dL_right_108 ?_
        show zV false E kL_right 116 o 111 [.ref (1), .ref (J 0), .ref (J 1), .ref (J 2), .ref (J 3), .ref (J 4), .ref (J 5), .int (nI nc), .int (nI c), .int (kn), .int (nI p), .int (nI ((10 * c) + p)), .int (nI 0), .null, .null, .null, .null, .null] [.int (ν 2 ((10 * c) + p))] (zm μ (J, 11, ν)) (u + 3 + 3 + 3) (us + 18 + 18 + 18)
        refine z_aload_n rfl rfl dL_right_111 ?_
        refine z_iload rfl dL_right_112 ?_
        refine m_xald 2 ((10 * c) + p) 64 rfl (by decide) rfl (by omega) (by decide) dL_right_114 ?_
        refine z_icmp_ne 211 (by decide) dL_right_115 (fun h => absurd rfl h) (fun _ => ?_)
        refine z_aload_n rfl rfl dL_right_118 ?_
        refine z_iload rfl dL_right_119 ?_
        refine z_iload rfl dL_right_121 ?_
        refine z_iconst (nI 3) (by decide) dL_right_123 ?_
        refine z_callV (as := [.int (nI c), .int (nI p), .int (nI 3)]) (by have h := ct_X7_at (E := E) (μ := μ) (g := (J, 11, ν)) hnc hn12 (c := c) (by omega) (p := p) (by omega) (w := 3) (by omega); rw [a3] at h; exact h) ko_X7_at kl_L_22 rfl (zl_a rfl rfl) rfl rfl ⟨by decide, by decide, by show u + 3 + 3 + 3 + 3 ≤ 1760; omega, by show us + 18 + 18 + 18 + 18 ≤ 10560; omega⟩ (Nat.le_of_ble_eq_true rfl) rfl dL_right_124 ?_
        show zV false E kL_right 116 o 127 [.ref (1), .ref (J 0), .ref (J 1), .ref (J 2), .ref (J 3), .ref (J 4), .ref (J 5), .int (nI nc), .int (nI c), .int (kn), .int (nI p), .int (nI ((10 * c) + p)), .int (nI 0), .null, .null, .null, .null, .null] [.int (-1)] (zm μ (J, 11, ν)) (u + 3 + 3 + 3 + 3) (us + 18 + 18 + 18 + 18)
        refine z_iload rfl dL_right_127 ?_
        refine z_if_eq 140 (by decide) dL_right_129 (fun _ => ?_) (fun h => absurd h (by decide))
        refine z_iconst (-1) (by decide) dL_right_140 ?_
        refine z_icmp_ne 211 (by decide) dL_right_141 (fun h => absurd h (by decide)) (fun _ => ?_)
        refine z_aload_n rfl rfl dL_right_144 ?_
        refine z_iload rfl dL_right_145 ?_
        refine z_iload rfl dL_right_147 ?_
        refine z_iconst (nI 4) (by decide) dL_right_149 ?_
        refine z_callV (as := [.int (nI c), .int (nI p), .int (nI 4)]) (by have h := ct_X7_at (E := E) (μ := μ) (g := (J, 11, ν)) hnc hn12 (c := c) (by omega) (p := p) (by omega) (w := 4) (by omega); rw [a4] at h; exact h) ko_X7_at kl_L_22 rfl (zl_a rfl rfl) rfl rfl ⟨by decide, by decide, by show u + 3 + 3 + 3 + 3 + 3 ≤ 1760; omega, by show us + 18 + 18 + 18 + 18 + 18 ≤ 10560; omega⟩ (Nat.le_of_ble_eq_true rfl) rfl dL_right_150 ?_
        show zV false E kL_right 116 o 153 [.ref (1), .ref (J 0), .ref (J 1), .ref (J 2), .ref (J 3), .ref (J 4), .ref (J 5), .int (nI nc), .int (nI c), .int (kn), .int (nI p), .int (nI ((10 * c) + p)), .int (nI 0), .null, .null, .null, .null, .null] [.int (100000)] (zm μ (J, 11, ν)) (u + 3 + 3 + 3 + 3 + 3) (us + 18 + 18 + 18 + 18 + 18)
        refine z_iload rfl dL_right_153 ?_
        refine z_if_eq 171 (by decide) dL_right_155 (fun _ => ?_) (fun h => absurd h (by decide))
        refine z_ldc (100000) kc_L_26 dL_right_171 ?_
        refine z_icmp_ne 211 (by decide) dL_right_173 (fun h => absurd h (by decide)) (fun _ => ?_)
        refine z_aload_n rfl rfl dL_right_176 ?_
        refine z_iload rfl dL_right_177 ?_
        refine z_iload rfl dL_right_179 ?_
        refine z_iconst (nI 5) (by decide) dL_right_181 ?_
        refine z_callV (as := [.int (nI c), .int (nI p), .int (nI 5)]) (by have h := ct_X7_at (E := E) (μ := μ) (g := (J, 11, ν)) hnc hn12 (c := c) (by omega) (p := p) (by omega) (w := 5) (by omega); rw [a5] at h; exact h) ko_X7_at kl_L_22 rfl (zl_a rfl rfl) rfl rfl ⟨by decide, by decide, by show u + 3 + 3 + 3 + 3 + 3 + 3 ≤ 1760; omega, by show us + 18 + 18 + 18 + 18 + 18 + 18 ≤ 10560; omega⟩ (Nat.le_of_ble_eq_true rfl) rfl dL_right_182 ?_
        show zV false E kL_right 116 o 185 [.ref (1), .ref (J 0), .ref (J 1), .ref (J 2), .ref (J 3), .ref (J 4), .ref (J 5), .int (nI nc), .int (nI c), .int (kn), .int (nI p), .int (nI ((10 * c) + p)), .int (nI 0), .null, .null, .null, .null, .null] [.int (100000)] (zm μ (J, 11, ν)) (u + 3 + 3 + 3 + 3 + 3 + 3) (us + 18 + 18 + 18 + 18 + 18 + 18)
        refine z_iload rfl dL_right_185 ?_
        refine z_if_eq 206 (by decide) dL_right_187 (fun _ => ?_) (fun h => absurd h (by decide))
        refine z_ldc (100000) kc_L_26 dL_right_206 ?_
        refine z_icmp_eq 213 (by decide) dL_right_208 (fun _ => ?_) (fun h => absurd h (by decide))
        refine z_iload rfl dL_right_213 ?_
        refine z_if_eq 221 (by decide) dL_right_215 (fun _ => ?_) (fun h => absurd h (by decide))
        refine z_iload rfl dL_right_221 ?_
        refine z_if_eq 231 (by decide) dL_right_223 (fun _ => ?_) (fun h => absurd h (by decide))
        refine z_iconst (-1) (by decide) dL_right_231 ?_
        refine z_istore (by decide) rfl dL_right_232 ?_
        refine z_iconst (nI 0) (by decide) dL_right_234 ?_
        refine z_istore (by decide) rfl dL_right_235 ?_
        refine z_fgt [.ref (1), .ref (J 0), .ref (J 1), .ref (J 2), .ref (J 3), .ref (J 4), .ref (J 5), .int (nI nc), .int (nI c), .int (kn), .int (nI p), .null, .null, .int (-1), .int (nI 0), .null, .null, .null] ⟨Or.inl rfl, ⟨Or.inl rfl, ⟨Or.inl rfl, ⟨Or.inl rfl, ⟨Or.inl rfl, ⟨Or.inl rfl, ⟨Or.inl rfl, ⟨Or.inl rfl, ⟨Or.inl rfl, ⟨Or.inl rfl, ⟨Or.inl rfl, ⟨Or.inr rfl, ⟨Or.inr rfl, ⟨Or.inl rfl, ⟨Or.inl rfl, ⟨Or.inl rfl, ⟨Or.inl rfl, ⟨Or.inl rfl, trivial⟩⟩⟩⟩⟩⟩⟩⟩⟩⟩⟩⟩⟩⟩⟩⟩⟩⟩ ?_
        refine lp_R3 hI hc (p := p) (by omega) (U := 352 * c + 30 * p + 18) (by omega) (fun u2 us2 hu2 hus2 => ?_) _ 0 _ _ _ rfl (by omega) (chn_u (fun q => hq.mp q hk)) (Or.inl rfl) (by omega) (by omega)
        refine z_iinc (nI (p + 1)) rfl (zincN _ 1) (by decide) rfl dL_right_302 ?_
        refine z_goto 16 (by decide) dL_right_305 ?_
        exact ih (10 - (p + 1)) (by omega) (p + 1) _ u2 us2 rfl (by omega) (by rw [zit_s, ← hkn, Nat.zero_add, ckn, if_neg (fun q => hq.mp q hk)]) (by omega) (by omega)
      · obtain ⟨a0, a1, a2, a3, a4, a5⟩ := at_k hn5 (by omega) (by omega) hT hP hk
        refine z_aload rfl dL_right_33 ?_
        refine z_iload rfl dL_right_35 ?_
        refine m_xald 3 ((10 * c) + p) 64 rfl (by decide) rfl (by omega) (by decide) dL_right_37 ?_
        refine z_bipush (-2) (by decide) dL_right_38 ?_
        refine z_icmp_le 47 (by decide) dL_right_40 (fun h40t => ((hk ((iP_le hn5 hP).mp h40t) : False)).elim) (fun h40f => ?_)
        refine z_iconst (nI 1) (by decide) dL_right_43 ?_
        refine z_goto 48 (by decide) dL_right_44 ?_
        refine z_istore (by decide) rfl dL_right_48 ?_
        refine z_aload_n rfl rfl dL_right_50 ?_
        refine z_iload rfl dL_right_51 ?_
        refine z_iload rfl dL_right_53 ?_
        refine z_iconst (nI 0) (by decide) dL_right_55 ?_
        refine z_callV (as := [.int (nI c), .int (nI p), .int (nI 0)]) (by have h := ct_X7_at (E := E) (μ := μ) (g := (J, 11, ν)) hnc hn12 (c := c) (by omega) (p := p) (by omega) (w := 0) (by omega); rw [a0] at h; exact h) ko_X7_at kl_L_22 rfl (zl_a rfl rfl) rfl rfl ⟨by decide, by decide, by show u + 3 ≤ 1760; omega, by show us + 18 ≤ 10560; omega⟩ (Nat.le_of_ble_eq_true rfl) rfl dL_right_56 ?_
        show zV false E kL_right 116 o 59 [.ref (1), .ref (J 0), .ref (J 1), .ref (J 2), .ref (J 3), .ref (J 4), .ref (J 5), .int (nI nc), .int (nI c), .int (kn), .int (nI p), .int (nI ((10 * c) + p)), .int (nI 1), .null, .null, .null, .null, .null] [.int (ν 0 ((10 * c) + p))] (zm μ (J, 11, ν)) (u + 3) (us + 18)
        refine z_iload rfl dL_right_59 ?_
        refine z_if_eq 71 (by decide) dL_right_61 (fun h => absurd h (by decide)) (fun _ => ?_)
        refine z_aload_n rfl rfl dL_right_64 ?_
        refine z_iload rfl dL_right_65 ?_
        refine m_xald 0 ((10 * c) + p) 64 rfl (by decide) rfl (by omega) (by decide) dL_right_67 ?_
        refine z_goto 73 (by decide) dL_right_68 ?_
        refine z_icmp_ne 211 (by decide) dL_right_73 (fun h => absurd rfl h) (fun _ => ?_)
        refine z_aload_n rfl rfl dL_right_76 ?_
        refine z_iload rfl dL_right_77 ?_
        refine z_iload rfl dL_right_79 ?_
        refine z_iconst (nI 1) (by decide) dL_right_81 ?_
        refine z_callV (as := [.int (nI c), .int (nI p), .int (nI 1)]) (by have h := ct_X7_at (E := E) (μ := μ) (g := (J, 11, ν)) hnc hn12 (c := c) (by omega) (p := p) (by omega) (w := 1) (by omega); rw [a1] at h; exact h) ko_X7_at kl_L_22 rfl (zl_a rfl rfl) rfl rfl ⟨by decide, by decide, by show u + 3 + 3 ≤ 1760; omega, by show us + 18 + 18 ≤ 10560; omega⟩ (Nat.le_of_ble_eq_true rfl) rfl dL_right_82 ?_
        show zV false E kL_right 116 o 85 [.ref (1), .ref (J 0), .ref (J 1), .ref (J 2), .ref (J 3), .ref (J 4), .ref (J 5), .int (nI nc), .int (nI c), .int (kn), .int (nI p), .int (nI ((10 * c) + p)), .int (nI 1), .null, .null, .null, .null, .null] [.int (ν 1 ((10 * c) + p))] (zm μ (J, 11, ν)) (u + 3 + 3) (us + 18 + 18)
        refine z_iload rfl dL_right_85 ?_
        refine z_if_eq 97 (by decide) dL_right_87 (fun h => absurd h (by decide)) (fun _ => ?_)
        refine z_aload_n rfl rfl dL_right_90 ?_
        refine z_iload rfl dL_right_91 ?_
        refine m_xald 1 ((10 * c) + p) 64 rfl (by decide) rfl (by omega) (by decide) dL_right_93 ?_
        refine z_goto 99 (by decide) dL_right_94 ?_
        refine z_icmp_ne 211 (by decide) dL_right_99 (fun h => absurd rfl h) (fun _ => ?_)
        refine z_aload_n rfl rfl dL_right_102 ?_
        refine z_iload rfl dL_right_103 ?_
        refine z_iload rfl dL_right_105 ?_
        refine z_iconst (nI 2) (by decide) dL_right_107 ?_
        refine z_callV (as := [.int (nI c), .int (nI p), .int (nI 2)]) (by have h := ct_X7_at (E := E) (μ := μ) (g := (J, 11, ν)) hnc hn12 (c := c) (by omega) (p := p) (by omega) (w := 2) (by omega); rw [a2] at h; exact h) ko_X7_at kl_L_22 rfl (zl_a rfl rfl) rfl rfl ⟨by decide, by decide, by show u + 3 + 3 + 3 ≤ 1760; omega, by show us + 18 + 18 + 18 ≤ 10560; omega⟩ (Nat.le_of_ble_eq_true rfl) rfl dL_right_108 ?_
        show zV false E kL_right 116 o 111 [.ref (1), .ref (J 0), .ref (J 1), .ref (J 2), .ref (J 3), .ref (J 4), .ref (J 5), .int (nI nc), .int (nI c), .int (kn), .int (nI p), .int (nI ((10 * c) + p)), .int (nI 1), .null, .null, .null, .null, .null] [.int (ν 2 ((10 * c) + p))] (zm μ (J, 11, ν)) (u + 3 + 3 + 3) (us + 18 + 18 + 18)
        refine z_aload_n rfl rfl dL_right_111 ?_
        refine z_iload rfl dL_right_112 ?_
        refine m_xald 2 ((10 * c) + p) 64 rfl (by decide) rfl (by omega) (by decide) dL_right_114 ?_
        refine z_icmp_ne 211 (by decide) dL_right_115 (fun h => absurd rfl h) (fun _ => ?_)
        refine z_aload_n rfl rfl dL_right_118 ?_
        refine z_iload rfl dL_right_119 ?_
        refine z_iload rfl dL_right_121 ?_
        refine z_iconst (nI 3) (by decide) dL_right_123 ?_
        refine z_callV (as := [.int (nI c), .int (nI p), .int (nI 3)]) (by have h := ct_X7_at (E := E) (μ := μ) (g := (J, 11, ν)) hnc hn12 (c := c) (by omega) (p := p) (by omega) (w := 3) (by omega); rw [a3] at h; exact h) ko_X7_at kl_L_22 rfl (zl_a rfl rfl) rfl rfl ⟨by decide, by decide, by show u + 3 + 3 + 3 + 3 ≤ 1760; omega, by show us + 18 + 18 + 18 + 18 ≤ 10560; omega⟩ (Nat.le_of_ble_eq_true rfl) rfl dL_right_124 ?_
        show zV false E kL_right 116 o 127 [.ref (1), .ref (J 0), .ref (J 1), .ref (J 2), .ref (J 3), .ref (J 4), .ref (J 5), .int (nI nc), .int (nI c), .int (kn), .int (nI p), .int (nI ((10 * c) + p)), .int (nI 1), .null, .null, .null, .null, .null] [.int (ν 3 ((10 * c) + p))] (zm μ (J, 11, ν)) (u + 3 + 3 + 3 + 3) (us + 18 + 18 + 18 + 18)
        refine z_iload rfl dL_right_127 ?_
        refine z_if_eq 140 (by decide) dL_right_129 (fun h => absurd h (by decide)) (fun _ => ?_)
        refine z_aload rfl dL_right_132 ?_
        refine z_iload rfl dL_right_134 ?_
        refine m_xald 3 ((10 * c) + p) 64 rfl (by decide) rfl (by omega) (by decide) dL_right_136 ?_
        refine z_goto 141 (by decide) dL_right_137 ?_
        refine z_icmp_ne 211 (by decide) dL_right_141 (fun h => absurd rfl h) (fun _ => ?_)
        refine z_aload_n rfl rfl dL_right_144 ?_
        refine z_iload rfl dL_right_145 ?_
        refine z_iload rfl dL_right_147 ?_
        refine z_iconst (nI 4) (by decide) dL_right_149 ?_
        refine z_callV (as := [.int (nI c), .int (nI p), .int (nI 4)]) (by have h := ct_X7_at (E := E) (μ := μ) (g := (J, 11, ν)) hnc hn12 (c := c) (by omega) (p := p) (by omega) (w := 4) (by omega); rw [a4] at h; exact h) ko_X7_at kl_L_22 rfl (zl_a rfl rfl) rfl rfl ⟨by decide, by decide, by show u + 3 + 3 + 3 + 3 + 3 ≤ 1760; omega, by show us + 18 + 18 + 18 + 18 + 18 ≤ 10560; omega⟩ (Nat.le_of_ble_eq_true rfl) rfl dL_right_150 ?_
        show zV false E kL_right 116 o 153 [.ref (1), .ref (J 0), .ref (J 1), .ref (J 2), .ref (J 3), .ref (J 4), .ref (J 5), .int (nI nc), .int (nI c), .int (kn), .int (nI p), .int (nI ((10 * c) + p)), .int (nI 1), .null, .null, .null, .null, .null] [.int ((ν 0 ((10 * c) + p)) - (ν 4 p))] (zm μ (J, 11, ν)) (u + 3 + 3 + 3 + 3 + 3) (us + 18 + 18 + 18 + 18 + 18)
        refine z_iload rfl dL_right_153 ?_
        refine z_if_eq 171 (by decide) dL_right_155 (fun h => absurd h (by decide)) (fun _ => ?_)
        refine z_aload_n rfl rfl dL_right_158 ?_
        refine z_iload rfl dL_right_159 ?_
        refine m_xald 0 ((10 * c) + p) 64 rfl (by decide) rfl (by omega) (by decide) dL_right_161 ?_
        refine z_aload rfl dL_right_162 ?_
        refine z_iload rfl dL_right_164 ?_
        refine m_xald 4 (p) 64 rfl (by decide) rfl (by omega) (by decide) dL_right_166 ?_
        refine z_isub dL_right_167 ?_
        refine z_goto 173 (by decide) dL_right_168 ?_
        refine z_icmp_ne 211 (by decide) dL_right_173 (fun h => absurd rfl h) (fun _ => ?_)
        refine z_aload_n rfl rfl dL_right_176 ?_
        refine z_iload rfl dL_right_177 ?_
        refine z_iload rfl dL_right_179 ?_
        refine z_iconst (nI 5) (by decide) dL_right_181 ?_
        refine z_callV (as := [.int (nI c), .int (nI p), .int (nI 5)]) (by have h := ct_X7_at (E := E) (μ := μ) (g := (J, 11, ν)) hnc hn12 (c := c) (by omega) (p := p) (by omega) (w := 5) (by omega); rw [a5] at h; exact h) ko_X7_at kl_L_22 rfl (zl_a rfl rfl) rfl rfl ⟨by decide, by decide, by show u + 3 + 3 + 3 + 3 + 3 + 3 ≤ 1760; omega, by show us + 18 + 18 + 18 + 18 + 18 + 18 ≤ 10560; omega⟩ (Nat.le_of_ble_eq_true rfl) rfl dL_right_182 ?_
        show zV false E kL_right 116 o 185 [.ref (1), .ref (J 0), .ref (J 1), .ref (J 2), .ref (J 3), .ref (J 4), .ref (J 5), .int (nI nc), .int (nI c), .int (kn), .int (nI p), .int (nI ((10 * c) + p)), .int (nI 1), .null, .null, .null, .null, .null] [.int ((ν 1 ((10 * c) + p)) - (ν 4 (10 + p)))] (zm μ (J, 11, ν)) (u + 3 + 3 + 3 + 3 + 3 + 3) (us + 18 + 18 + 18 + 18 + 18 + 18)
        refine z_iload rfl dL_right_185 ?_
        refine z_if_eq 206 (by decide) dL_right_187 (fun h => absurd h (by decide)) (fun _ => ?_)
        refine z_aload_n rfl rfl dL_right_190 ?_
        refine z_iload rfl dL_right_191 ?_
        refine m_xald 1 ((10 * c) + p) 64 rfl (by decide) rfl (by omega) (by decide) dL_right_193 ?_
        refine z_aload rfl dL_right_194 ?_
        refine z_bipush (nI 10) (by decide) dL_right_196 ?_
        refine z_iload rfl dL_right_198 ?_
        refine m_addN dL_right_200 ?_
        refine m_xald 4 (10 + p) 64 rfl (by decide) rfl (by omega) (by decide) dL_right_201 ?_
        refine z_isub dL_right_202 ?_
        refine z_goto 208 (by decide) dL_right_203 ?_
        refine z_icmp_eq 213 (by decide) dL_right_208 (fun _ => ?_) (fun h => absurd rfl h)
        refine z_iload rfl dL_right_213 ?_
        refine z_if_eq 221 (by decide) dL_right_215 (fun h => absurd h (by decide)) (fun _ => ?_)
        refine z_iinc (kn + nI 1) rfl rfl (by decide) rfl dL_right_218 ?_
        refine z_iload rfl dL_right_221 ?_
        refine z_if_eq 231 (by decide) dL_right_223 (fun h => absurd h (by decide)) (fun _ => ?_)
        refine z_iload rfl dL_right_226 ?_
        refine z_goto 232 (by decide) dL_right_228 ?_
        refine z_istore (by decide) rfl dL_right_232 ?_
        refine z_iconst (nI 0) (by decide) dL_right_234 ?_
        refine z_istore (by decide) rfl dL_right_235 ?_
        refine z_fgt [.ref (1), .ref (J 0), .ref (J 1), .ref (J 2), .ref (J 3), .ref (J 4), .ref (J 5), .int (nI nc), .int (nI c), .int (kn + nI 1), .int (nI p), .null, .null, .int (nI c), .int (nI 0), .null, .null, .null] ⟨Or.inl rfl, ⟨Or.inl rfl, ⟨Or.inl rfl, ⟨Or.inl rfl, ⟨Or.inl rfl, ⟨Or.inl rfl, ⟨Or.inl rfl, ⟨Or.inl rfl, ⟨Or.inl rfl, ⟨Or.inl rfl, ⟨Or.inl rfl, ⟨Or.inr rfl, ⟨Or.inr rfl, ⟨Or.inl rfl, ⟨Or.inl rfl, ⟨Or.inl rfl, ⟨Or.inl rfl, ⟨Or.inl rfl, trivial⟩⟩⟩⟩⟩⟩⟩⟩⟩⟩⟩⟩⟩⟩⟩⟩⟩⟩ ?_
        refine lp_R3 hI hc (p := p) (by omega) (U := 352 * c + 30 * p + 18) (by omega) (fun u2 us2 hu2 hus2 => ?_) _ 0 _ _ _ rfl (by omega) (chn_0 (hq.mpr hk)) (Or.inr ⟨c, hc, rfl⟩) (by omega) (by omega)
        refine z_iinc (nI (p + 1)) rfl (zincN _ 1) (by decide) rfl dL_right_302 ?_
        refine z_goto 16 (by decide) dL_right_305 ?_
        exact ih (10 - (p + 1)) (by omega) (p + 1) _ u2 us2 rfl (by omega) (by rw [zit_s, ← hkn, Nat.zero_add, ckn, if_pos (hq.mpr hk)]; rfl) (by omega) (by omega)
set_option maxRecDepth 100000 in
set_option maxHeartbeats 4000000 in
theorem lp_R4 {E : Nat × (Nat → Int32)} {μ : zMu} {J : Nat → Nat} {ν : zMu} {o : zO} {nc nr ni : Nat} {rf rt : Nat → Nat} (hI : iv μ ν nc nr ni rf rt) {c : Nat} (hc : c < nc)  {u us : Nat} (kk : ∀ (k : Nat) (sx sy : Int32), k ≤ 8 → zit (cshf μ c 34 3) 0 8 (nI 0, nI 0) = (nI k, sx) → zit (cshf μ c 35 4) 0 8 (nI 0, nI 0) = (nI k, sy) → zV false E kL_right 116 o 414 [.ref (1), .ref (J 0), .ref (J 1), .ref (J 2), .ref (J 3), .ref (J 4), .ref (J 5), .int (nI nc), .int (nI c), .null, .int (sx), .int (sy), .int (nI k), .null, .null, .null, .null, .null] [] (zm μ (J, 11, ν)) u us) : ∀ (n : Nat) (p k : Nat) (sx sy : Int32), 8 - p = n → p ≤ 8 → k ≤ p → zit (cshf μ c 34 3) 0 p (nI 0, nI 0) = (nI k, sx) → zit (cshf μ c 35 4) 0 p (nI 0, nI 0) = (nI k, sy) → zV false E kL_right 116 o 334 [.ref (1), .ref (J 0), .ref (J 1), .ref (J 2), .ref (J 3), .ref (J 4), .ref (J 5), .int (nI nc), .int (nI c), .null, .int (sx), .int (sy), .int (nI k), .int (nI p), .null, .null, .null, .null] [] (zm μ (J, 11, ν)) u us := by
  intro n
  induction n using Nat.strongRecOn with
  | ind n ih =>
    intro p k sx sy e h8 hk8 e1 e2
    obtain ⟨⟨⟨hnc, hn5⟩, -, ⟨hni, hn4⟩⟩, hT, -, -, hB, hK, hA⟩ := id hI
    have hn12 : nc ≤ 12 := by omega
    refine z_iload rfl dL_right_334 ?_
    refine z_bipush (nI 8) (by decide) dL_right_336 ?_
    refine z_icmp_ge 414 (by decide) dL_right_338 (z_br (zcn (n := 8) (by omega) (p) (by omega)).2.2 (fun h338t => ?_)) (z_brn (zcn (n := 8) (by omega) (p) (by omega)).2.2 (fun h338f => ?_))
    · obtain rfl : p = 8 := by omega
      refine z_fgt [.ref (1), .ref (J 0), .ref (J 1), .ref (J 2), .ref (J 3), .ref (J 4), .ref (J 5), .int (nI nc), .int (nI c), .null, .int (sx), .int (sy), .int (nI k), .null, .null, .null, .null, .null] ⟨Or.inl rfl, ⟨Or.inl rfl, ⟨Or.inl rfl, ⟨Or.inl rfl, ⟨Or.inl rfl, ⟨Or.inl rfl, ⟨Or.inl rfl, ⟨Or.inl rfl, ⟨Or.inl rfl, ⟨Or.inl rfl, ⟨Or.inl rfl, ⟨Or.inl rfl, ⟨Or.inl rfl, ⟨Or.inr rfl, ⟨Or.inl rfl, ⟨Or.inl rfl, ⟨Or.inl rfl, ⟨Or.inl rfl, trivial⟩⟩⟩⟩⟩⟩⟩⟩⟩⟩⟩⟩⟩⟩⟩⟩⟩⟩ ?_
      exact kk k sx sy hk8 e1 e2
    · have hP := (hK c hc).2.2.1 p (by omega)
      have hq := iP_kn hn5 (by omega) hP
      obtain ⟨t1, t2, -⟩ := hT.1 p (by omega)
      by_cases hk : ν 3 (10 * c + p) = -2
      · have a3 : ¬ zkn μ c p := fun q => hq.mp q hk
        refine z_aload rfl dL_right_341 ?_
        refine z_bipush (nI 10) (by decide) dL_right_343 ?_
        refine z_iload rfl dL_right_345 ?_
        refine m_mulN dL_right_347 ?_
        refine z_iload rfl dL_right_348 ?_
        refine m_addN dL_right_350 ?_
        refine m_xald 3 ((10 * c) + p) 64 rfl (by decide) rfl (by omega) (by decide) dL_right_351 ?_
        refine z_bipush (-2) (by decide) dL_right_352 ?_
        refine z_icmp_ne 360 (by decide) dL_right_354 (fun h354t => ((h354t hk : False)).elim) (fun h354f => ?_)
        refine z_goto 408 (by decide) dL_right_357 ?_
        refine z_iinc (nI (p + 1)) rfl (zincN _ 1) (by decide) rfl dL_right_408 ?_
        refine z_goto 334 (by decide) dL_right_411 ?_
        exact ih (8 - (p + 1)) (by omega) (p + 1) k _ _ rfl (by omega) (by omega) (by rw [zit_s, e1, Nat.zero_add, cshf_u a3]) (by rw [zit_s, e2, Nat.zero_add, cshf_u a3])
      · obtain ⟨a1, a2, a3⟩ : μ (34 + 7 * c) p = ν 0 (10 * c + p) ∧ μ (35 + 7 * c) p = ν 1 (10 * c + p) ∧ zkn μ c p := by
          rcases hP.2 with ⟨h1, -⟩ | ⟨-, h2, h3, -⟩
          · exact absurd h1 hk
          · exact ⟨h2, h3, hq.mpr hk⟩
        refine z_aload rfl dL_right_341 ?_
        refine z_bipush (nI 10) (by decide) dL_right_343 ?_
        refine z_iload rfl dL_right_345 ?_
        refine m_mulN dL_right_347 ?_
        refine z_iload rfl dL_right_348 ?_
        refine m_addN dL_right_350 ?_
        refine m_xald 3 ((10 * c) + p) 64 rfl (by decide) rfl (by omega) (by decide) dL_right_351 ?_
        refine z_bipush (-2) (by decide) dL_right_352 ?_
        refine z_icmp_ne 360 (by decide) dL_right_354 (fun h354t => ?_) (fun h354f => ((hk h354f : False)).elim)
        refine z_iload rfl dL_right_360 ?_
        refine z_aload_n rfl rfl dL_right_362 ?_
        refine z_bipush (nI 10) (by decide) dL_right_363 ?_
        refine z_iload rfl dL_right_365 ?_
        refine m_mulN dL_right_367 ?_
        refine z_iload rfl dL_right_368 ?_
        refine m_addN dL_right_370 ?_
        refine m_xald 0 ((10 * c) + p) 64 rfl (by decide) rfl (by omega) (by decide) dL_right_371 ?_
        refine z_aload rfl dL_right_372 ?_
        refine z_iload rfl dL_right_374 ?_
        refine m_xald 4 (p) 64 rfl (by decide) rfl (by omega) (by decide) dL_right_376 ?_
        refine z_isub dL_right_377 ?_
        refine z_iadd dL_right_378 ?_
        refine z_istore (by decide) rfl dL_right_379 ?_
        refine z_iload rfl dL_right_381 ?_
        refine z_aload_n rfl rfl dL_right_383 ?_
        refine z_bipush (nI 10) (by decide) dL_right_384 ?_
        refine z_iload rfl dL_right_386 ?_
        refine m_mulN dL_right_388 ?_
        refine z_iload rfl dL_right_389 ?_
        refine m_addN dL_right_391 ?_
        refine m_xald 1 ((10 * c) + p) 64 rfl (by decide) rfl (by omega) (by decide) dL_right_392 ?_
        refine z_aload rfl dL_right_393 ?_
        refine z_bipush (nI 10) (by decide) dL_right_395 ?_
        refine z_iload rfl dL_right_397 ?_
        refine m_addN dL_right_399 ?_
        refine m_xald 4 (10 + p) 64 rfl (by decide) rfl (by omega) (by decide) dL_right_400 ?_
        refine z_isub dL_right_401 ?_
        refine z_iadd dL_right_402 ?_
        refine z_istore (by decide) rfl dL_right_403 ?_
        refine z_iinc (nI (k + 1)) rfl (zincN _ 1) (by decide) rfl dL_right_405 ?_
        refine z_iinc (nI (p + 1)) rfl (zincN _ 1) (by decide) rfl dL_right_408 ?_
        refine z_goto 334 (by decide) dL_right_411 ?_
        exact ih (8 - (p + 1)) (by omega) (p + 1) (k + 1) _ _ rfl (by omega) (by omega) (by rw [zit_s, e1, Nat.zero_add, cshf_k a3, a1, t1]) (by rw [zit_s, e2, Nat.zero_add, cshf_k a3, a2, t2])
set_option maxRecDepth 100000 in
set_option maxHeartbeats 4000000 in
theorem lp_R5 {E : Nat × (Nat → Int32)} {μ : zMu} {J : Nat → Nat} {ν : zMu} {o : zO} {nc nr ni : Nat} {rf rt : Nat → Nat} (hI : iv μ ν nc nr ni rf rt) {c : Nat} (hc : c < nc)  {u us : Nat} (hu : u ≤ 1760) (hus : us ≤ 10560) (kk : zV false E kL_right 116 o 534 [.ref (1), .ref (J 0), .ref (J 1), .ref (J 2), .ref (J 3), .ref (J 4), .ref (J 5), .int (nI nc), .int (nI c), .null, .int (cshift μ c 0 34 3), .int (cshift μ c 0 35 4), .null, .int (zit (cres μ c (cshift μ c 0 34 3) (cshift μ c 0 35 4)) 0 8 (nI 0)), .null, .null, .null, .null] [] (zm μ (J, 11, ν)) u us) : ∀ (n : Nat) (p : Nat) (r : Int32), 8 - p = n → p ≤ 8 → r = zit (cres μ c (cshift μ c 0 34 3) (cshift μ c 0 35 4)) 0 p (nI 0) → zV false E kL_right 116 o 452 [.ref (1), .ref (J 0), .ref (J 1), .ref (J 2), .ref (J 3), .ref (J 4), .ref (J 5), .int (nI nc), .int (nI c), .null, .int (cshift μ c 0 34 3), .int (cshift μ c 0 35 4), .null, .int (r), .int (nI p), .null, .null, .null] [] (zm μ (J, 11, ν)) u us := by
  intro n
  induction n using Nat.strongRecOn with
  | ind n ih =>
    intro p r e h8 hr
    obtain ⟨⟨⟨hnc, hn5⟩, -, ⟨hni, hn4⟩⟩, hT, -, -, hB, hK, hA⟩ := id hI
    have hn12 : nc ≤ 12 := by omega
    refine z_iload rfl dL_right_452 ?_
    refine z_bipush (nI 8) (by decide) dL_right_454 ?_
    refine z_icmp_ge 534 (by decide) dL_right_456 (z_br (zcn (n := 8) (by omega) (p) (by omega)).2.2 (fun h456t => ?_)) (z_brn (zcn (n := 8) (by omega) (p) (by omega)).2.2 (fun h456f => ?_))
    · obtain rfl : p = 8 := by omega
      subst hr
      refine z_fgt [.ref (1), .ref (J 0), .ref (J 1), .ref (J 2), .ref (J 3), .ref (J 4), .ref (J 5), .int (nI nc), .int (nI c), .null, .int (cshift μ c 0 34 3), .int (cshift μ c 0 35 4), .null, .int (zit (cres μ c (cshift μ c 0 34 3) (cshift μ c 0 35 4)) 0 8 (nI 0)), .null, .null, .null, .null] ⟨Or.inl rfl, ⟨Or.inl rfl, ⟨Or.inl rfl, ⟨Or.inl rfl, ⟨Or.inl rfl, ⟨Or.inl rfl, ⟨Or.inl rfl, ⟨Or.inl rfl, ⟨Or.inl rfl, ⟨Or.inl rfl, ⟨Or.inl rfl, ⟨Or.inl rfl, ⟨Or.inl rfl, ⟨Or.inl rfl, ⟨Or.inr rfl, ⟨Or.inl rfl, ⟨Or.inl rfl, ⟨Or.inl rfl, trivial⟩⟩⟩⟩⟩⟩⟩⟩⟩⟩⟩⟩⟩⟩⟩⟩⟩⟩ ?_
      exact kk
    · have hP := (hK c hc).2.2.1 p (by omega)
      have hq := iP_kn hn5 (by omega) hP
      obtain ⟨t1, t2, -⟩ := hT.1 p (by omega)
      by_cases hk : ν 3 (10 * c + p) = -2
      · have a3 : ¬ zkn μ c p := fun q => hq.mp q hk
        refine z_aload rfl dL_right_459 ?_
        refine z_bipush (nI 10) (by decide) dL_right_461 ?_
        refine z_iload rfl dL_right_463 ?_
        refine m_mulN dL_right_465 ?_
        refine z_iload rfl dL_right_466 ?_
        refine m_addN dL_right_468 ?_
        refine m_xald 3 ((10 * c) + p) 64 rfl (by decide) rfl (by omega) (by decide) dL_right_469 ?_
        refine z_bipush (-2) (by decide) dL_right_470 ?_
        refine z_icmp_le 528 (by decide) dL_right_472 (fun h472t => ?_) (fun h472f => ((h472f ((iP_le hn5 hP).mpr hk) : False)).elim)
        refine z_iinc (nI (p + 1)) rfl (zincN _ 1) (by decide) rfl dL_right_528 ?_
        refine z_goto 452 (by decide) dL_right_531 ?_
        exact ih (8 - (p + 1)) (by omega) (p + 1) _ rfl (by omega) (by rw [zit_s, ← hr, Nat.zero_add, cres, if_neg a3])
      · obtain ⟨a1, a2, a3⟩ : μ (34 + 7 * c) p = ν 0 (10 * c + p) ∧ μ (35 + 7 * c) p = ν 1 (10 * c + p) ∧ zkn μ c p := by
          rcases hP.2 with ⟨h1, -⟩ | ⟨-, h2, h3, -⟩
          · exact absurd h1 hk
          · exact ⟨h2, h3, hq.mpr hk⟩
        refine z_aload rfl dL_right_459 ?_
        refine z_bipush (nI 10) (by decide) dL_right_461 ?_
        refine z_iload rfl dL_right_463 ?_
        refine m_mulN dL_right_465 ?_
        refine z_iload rfl dL_right_466 ?_
        refine m_addN dL_right_468 ?_
        refine m_xald 3 ((10 * c) + p) 64 rfl (by decide) rfl (by omega) (by decide) dL_right_469 ?_
        refine z_bipush (-2) (by decide) dL_right_470 ?_
        refine z_icmp_le 528 (by decide) dL_right_472 (fun h472t => ((hk ((iP_le hn5 hP).mp h472t) : False)).elim) (fun h472f => ?_)
        refine z_iload rfl dL_right_475 ?_
        refine z_aload_n rfl rfl dL_right_477 ?_
        refine z_bipush (nI 10) (by decide) dL_right_478 ?_
        refine z_iload rfl dL_right_480 ?_
        refine m_mulN dL_right_482 ?_
        refine z_iload rfl dL_right_483 ?_
        refine m_addN dL_right_485 ?_
        refine m_xald 0 ((10 * c) + p) 64 rfl (by decide) rfl (by omega) (by decide) dL_right_486 ?_
        refine z_aload rfl dL_right_487 ?_
        refine z_iload rfl dL_right_489 ?_
        refine m_xald 4 (p) 64 rfl (by decide) rfl (by omega) (by decide) dL_right_491 ?_
        refine z_isub dL_right_492 ?_
        refine z_iload rfl dL_right_493 ?_
        refine z_isub dL_right_495 ?_
        refine z_callS (as := [.int (((ν 0 ((10 * c) + p)) - (ν 4 p)) - (cshift μ c 0 34 3))]) (ct_L_size (((ν 0 ((10 * c) + p)) - (ν 4 p)) - (cshift μ c 0 34 3))) ko_L_size kl_L_34 rfl rfl ⟨by decide, by decide, by show u + 0 ≤ 1760; omega, by show us + 0 ≤ 10560; omega⟩ (Nat.le_of_ble_eq_true rfl) rfl dL_right_496 ?_
        show zV false E kL_right 116 o 499 [.ref (1), .ref (J 0), .ref (J 1), .ref (J 2), .ref (J 3), .ref (J 4), .ref (J 5), .int (nI nc), .int (nI c), .null, .int (cshift μ c 0 34 3), .int (cshift μ c 0 35 4), .null, .int (r), .int (nI p), .null, .null, .null] [.int (zab (((ν 0 ((10 * c) + p)) - (ν 4 p)) - (cshift μ c 0 34 3))), .int (r)] (zm μ (J, 11, ν)) (u + 0) (us + 0)
        refine z_aload_n rfl rfl dL_right_499 ?_
        refine z_bipush (nI 10) (by decide) dL_right_500 ?_
        refine z_iload rfl dL_right_502 ?_
        refine m_mulN dL_right_504 ?_
        refine z_iload rfl dL_right_505 ?_
        refine m_addN dL_right_507 ?_
        refine m_xald 1 ((10 * c) + p) 64 rfl (by decide) rfl (by omega) (by decide) dL_right_508 ?_
        refine z_aload rfl dL_right_509 ?_
        refine z_bipush (nI 10) (by decide) dL_right_511 ?_
        refine z_iload rfl dL_right_513 ?_
        refine m_addN dL_right_515 ?_
        refine m_xald 4 (10 + p) 64 rfl (by decide) rfl (by omega) (by decide) dL_right_516 ?_
        refine z_isub dL_right_517 ?_
        refine z_iload rfl dL_right_518 ?_
        refine z_isub dL_right_520 ?_
        refine z_callS (as := [.int (((ν 1 ((10 * c) + p)) - (ν 4 (10 + p))) - (cshift μ c 0 35 4))]) (ct_L_size (((ν 1 ((10 * c) + p)) - (ν 4 (10 + p))) - (cshift μ c 0 35 4))) ko_L_size kl_L_34 rfl rfl ⟨by decide, by decide, by show u + 0 + 0 ≤ 1760; omega, by show us + 0 + 0 ≤ 10560; omega⟩ (Nat.le_of_ble_eq_true rfl) rfl dL_right_521 ?_
        show zV false E kL_right 116 o 524 [.ref (1), .ref (J 0), .ref (J 1), .ref (J 2), .ref (J 3), .ref (J 4), .ref (J 5), .int (nI nc), .int (nI c), .null, .int (cshift μ c 0 34 3), .int (cshift μ c 0 35 4), .null, .int (r), .int (nI p), .null, .null, .null] [.int (zab (((ν 1 ((10 * c) + p)) - (ν 4 (10 + p))) - (cshift μ c 0 35 4))), .int (zab (((ν 0 ((10 * c) + p)) - (ν 4 p)) - (cshift μ c 0 34 3))), .int (r)] (zm μ (J, 11, ν)) (u + 0 + 0) (us + 0 + 0)
        refine z_iadd dL_right_524 ?_
        refine z_iadd dL_right_525 ?_
        refine z_istore (by decide) rfl dL_right_526 ?_
        refine z_iinc (nI (p + 1)) rfl (zincN _ 1) (by decide) rfl dL_right_528 ?_
        refine z_goto 452 (by decide) dL_right_531 ?_
        exact ih (8 - (p + 1)) (by omega) (p + 1) _ rfl (by omega) (by rw [zit_s, ← hr, Nat.zero_add, cres, if_pos a3, zer, zer, a1, a2, t1, t2, Int32.add_assoc])
set_option maxRecDepth 100000 in
set_option maxHeartbeats 4000000 in
theorem lp_R6 {E : Nat × (Nat → Int32)} {μ : zMu} {J : Nat → Nat} {ν : zMu} {o : zO} {nc nr ni : Nat} {rf rt : Nat → Nat} (hI : iv μ ν nc nr ni rf rt) {c : Nat} (hc : c < nc)  {U : Nat} (hU : U + 9 * c ≤ 1758) (kk : ∀ u us, u ≤ U + 9 * c → us ≤ 6 * u → zV false E kL_right 116 o 701 [.ref (1), .ref (J 0), .ref (J 1), .ref (J 2), .ref (J 3), .ref (J 4), .ref (J 5), .int (nI nc), .int (nI c), .null, .null, .null, .null, .null, .int ((zit (ckin μ c 0) 0 c (-1, nI 0)).1), .null, .null, .null] [] (zm μ (J, 11, ν)) u us) : ∀ (n : Nat) (k : Nat) (b m : Int32) (u us : Nat), c - k = n → k ≤ c → zit (ckin μ c 0) 0 k (-1, nI 0) = (b, m) → u ≤ U + 9 * k → us ≤ 6 * u → zV false E kL_right 116 o 595 [.ref (1), .ref (J 0), .ref (J 1), .ref (J 2), .ref (J 3), .ref (J 4), .ref (J 5), .int (nI nc), .int (nI c), .null, .null, .null, .null, .null, .int (b), .int (m), .int (nI k), .null] [] (zm μ (J, 11, ν)) u us := by
  intro n
  induction n using Nat.strongRecOn with
  | ind n ih =>
    intro k b m u us e hkc he hu hus
    obtain ⟨⟨⟨hnc, hn5⟩, -, ⟨hni, hn4⟩⟩, hT, -, -, hB, hK, hA⟩ := id hI
    have hn12 : nc ≤ 12 := by omega
    refine z_iload rfl dL_right_595 ?_
    refine z_iload rfl dL_right_597 ?_
    refine z_icmp_ge 701 (by decide) dL_right_599 (z_br (zcn (n := c) (by omega) (k) (by omega)).2.2 (fun h599t => ?_)) (z_brn (zcn (n := c) (by omega) (k) (by omega)).2.2 (fun h599f => ?_))
    · obtain rfl : c = k := by omega
      rw [he] at kk
      refine z_fgt [.ref (1), .ref (J 0), .ref (J 1), .ref (J 2), .ref (J 3), .ref (J 4), .ref (J 5), .int (nI nc), .int (nI c), .null, .null, .null, .null, .null, .int (b), .null, .null, .null] ⟨Or.inl rfl, ⟨Or.inl rfl, ⟨Or.inl rfl, ⟨Or.inl rfl, ⟨Or.inl rfl, ⟨Or.inl rfl, ⟨Or.inl rfl, ⟨Or.inl rfl, ⟨Or.inl rfl, ⟨Or.inl rfl, ⟨Or.inl rfl, ⟨Or.inl rfl, ⟨Or.inl rfl, ⟨Or.inl rfl, ⟨Or.inl rfl, ⟨Or.inr rfl, ⟨Or.inr rfl, ⟨Or.inl rfl, trivial⟩⟩⟩⟩⟩⟩⟩⟩⟩⟩⟩⟩⟩⟩⟩⟩⟩⟩ ?_
      exact kk _ _ (by omega) hus
    · refine z_aload_n rfl rfl dL_right_602 ?_
      refine z_aload_n rfl rfl dL_right_603 ?_
      refine z_aload_n rfl rfl dL_right_604 ?_
      refine z_aload rfl dL_right_605 ?_
      refine z_aload rfl dL_right_607 ?_
      refine z_aload rfl dL_right_609 ?_
      refine z_iload rfl dL_right_611 ?_
      refine z_iload rfl dL_right_613 ?_
      refine z_iconst (nI 0) (by decide) dL_right_615 ?_
      refine z_callS (as := [.ref (J 0), .ref (J 1), .ref (J 2), .ref (J 3), .ref (J 4), .ref (J 5), .int (nI c), .int (nI k), .int (nI 0)]) (ct_L_shared (a := c) (b := k) (bs := 0) (N := 8) (by omega) (by omega) (Or.inl ⟨rfl, rfl⟩) (by omega)) ko_L_shared kl_L_43 rfl rfl ⟨by decide, by decide, by show u + 0 ≤ 1760; omega, by show us + 0 ≤ 10560; omega⟩ (Nat.le_of_ble_eq_true rfl) rfl dL_right_616 ?_
      show zV false E kL_right 116 o 619 [.ref (1), .ref (J 0), .ref (J 1), .ref (J 2), .ref (J 3), .ref (J 4), .ref (J 5), .int (nI nc), .int (nI c), .null, .null, .null, .null, .null, .int (b), .int (m), .int (nI k), .null] [.int (nI (sC ν c k (8 * 0) 8 + sI ν c k 4))] (zm μ (J, 11, ν)) (u + 0) (us + 0)
      refine z_istore (by decide) rfl dL_right_619 ?_
      refine z_aload_n rfl rfl dL_right_621 ?_
      refine z_iload rfl dL_right_622 ?_
      refine z_iload rfl dL_right_624 ?_
      refine z_iconst (nI 0) (by decide) dL_right_626 ?_
      refine z_callV (as := [.int (nI c), .int (nI k), .int (nI 0)]) (by have h := ct_X7_shared (E := E) (μ := μ) (g := (J, 11, ν)) hnc hn12 (c := c) (by omega) (d := k) (b := 0) (by omega) (by omega); rw [shared_eq (N := 8) hn5 hn4 (by omega) (by omega) hT hK hB (Or.inl ⟨rfl, rfl⟩)] at h; exact h) ko_X7_shared kl_L_47 rfl (zl_a rfl rfl) rfl rfl ⟨by decide, by decide, by show u + 0 + 3 ≤ 1760; omega, by show us + 0 + 18 ≤ 10560; omega⟩ (Nat.le_of_ble_eq_true rfl) rfl dL_right_627 ?_
      show zV false E kL_right 116 o 630 [.ref (1), .ref (J 0), .ref (J 1), .ref (J 2), .ref (J 3), .ref (J 4), .ref (J 5), .int (nI nc), .int (nI c), .null, .null, .null, .null, .null, .int (b), .int (m), .int (nI k), .int (nI (sC ν c k (8 * 0) 8 + sI ν c k 4))] [.int (nI (sC ν c k (8 * 0) 8 + sI ν c k 4))] (zm μ (J, 11, ν)) (u + 0 + 3) (us + 0 + 18)
      refine z_iload rfl dL_right_630 ?_
      refine z_icmp_ne 678 (by decide) dL_right_632 (fun h => absurd rfl h) (fun _ => ?_)
      refine z_aload_n rfl rfl dL_right_635 ?_
      refine z_iload rfl dL_right_636 ?_
      refine z_iload rfl dL_right_638 ?_
      refine z_iconst (nI 0) (by decide) dL_right_640 ?_
      refine z_callV (as := [.int (nI k), .int (nI c), .int (nI 0)]) (by have h := ct_X7_shared (E := E) (μ := μ) (g := (J, 11, ν)) hnc hn12 (c := k) (by omega) (d := c) (b := 0) (by omega) (by omega); rw [shared_eq (N := 8) hn5 hn4 (by omega) (by omega) hT hK hB (Or.inl ⟨rfl, rfl⟩), sC_sym ν c k, sI_sym ν c k] at h; exact h) ko_X7_shared kl_L_47 rfl (zl_a rfl rfl) rfl rfl ⟨by decide, by decide, by show u + 0 + 3 + 3 ≤ 1760; omega, by show us + 0 + 18 + 18 ≤ 10560; omega⟩ (Nat.le_of_ble_eq_true rfl) rfl dL_right_641 ?_
      show zV false E kL_right 116 o 644 [.ref (1), .ref (J 0), .ref (J 1), .ref (J 2), .ref (J 3), .ref (J 4), .ref (J 5), .int (nI nc), .int (nI c), .null, .null, .null, .null, .null, .int (b), .int (m), .int (nI k), .int (nI (sC ν c k (8 * 0) 8 + sI ν c k 4))] [.int (nI (sC ν c k (8 * 0) 8 + sI ν c k 4))] (zm μ (J, 11, ν)) (u + 0 + 3 + 3) (us + 0 + 18 + 18)
      refine z_iload rfl dL_right_644 ?_
      refine z_icmp_ne 678 (by decide) dL_right_646 (fun h => absurd rfl h) (fun _ => ?_)
      refine z_aload_n rfl rfl dL_right_649 ?_
      refine z_iload rfl dL_right_650 ?_
      refine z_iload rfl dL_right_652 ?_
      refine z_iconst (nI 1) (by decide) dL_right_654 ?_
      refine z_callV (as := [.int (nI c), .int (nI k), .int (nI 1)]) (by have h := ct_X7_shared (E := E) (μ := μ) (g := (J, 11, ν)) hnc hn12 (c := c) (by omega) (d := k) (b := 1) (by omega) (by omega); rw [shared_eq (N := 2) hn5 hn4 (by omega) (by omega) hT hK hB (Or.inr ⟨rfl, rfl⟩)] at h; exact h) ko_X7_shared kl_L_47 rfl (zl_a rfl rfl) rfl rfl ⟨by decide, by decide, by show u + 0 + 3 + 3 + 3 ≤ 1760; omega, by show us + 0 + 18 + 18 + 18 ≤ 10560; omega⟩ (Nat.le_of_ble_eq_true rfl) rfl dL_right_655 ?_
      show zV false E kL_right 116 o 658 [.ref (1), .ref (J 0), .ref (J 1), .ref (J 2), .ref (J 3), .ref (J 4), .ref (J 5), .int (nI nc), .int (nI c), .null, .null, .null, .null, .null, .int (b), .int (m), .int (nI k), .int (nI (sC ν c k (8 * 0) 8 + sI ν c k 4))] [.int (nI (sC ν c k (8 * 1) 2 + sI ν c k 4))] (zm μ (J, 11, ν)) (u + 0 + 3 + 3 + 3) (us + 0 + 18 + 18 + 18)
      refine z_aload_n rfl rfl dL_right_658 ?_
      refine z_aload_n rfl rfl dL_right_659 ?_
      refine z_aload_n rfl rfl dL_right_660 ?_
      refine z_aload rfl dL_right_661 ?_
      refine z_aload rfl dL_right_663 ?_
      refine z_aload rfl dL_right_665 ?_
      refine z_iload rfl dL_right_667 ?_
      refine z_iload rfl dL_right_669 ?_
      refine z_iconst (nI 1) (by decide) dL_right_671 ?_
      refine z_callS (as := [.ref (J 0), .ref (J 1), .ref (J 2), .ref (J 3), .ref (J 4), .ref (J 5), .int (nI c), .int (nI k), .int (nI 1)]) (ct_L_shared (a := c) (b := k) (bs := 1) (N := 2) (by omega) (by omega) (Or.inr ⟨rfl, rfl⟩) (by omega)) ko_L_shared kl_L_43 rfl rfl ⟨by decide, by decide, by show u + 0 + 3 + 3 + 3 + 0 ≤ 1760; omega, by show us + 0 + 18 + 18 + 18 + 0 ≤ 10560; omega⟩ (Nat.le_of_ble_eq_true rfl) rfl dL_right_672 ?_
      show zV false E kL_right 116 o 675 [.ref (1), .ref (J 0), .ref (J 1), .ref (J 2), .ref (J 3), .ref (J 4), .ref (J 5), .int (nI nc), .int (nI c), .null, .null, .null, .null, .null, .int (b), .int (m), .int (nI k), .int (nI (sC ν c k (8 * 0) 8 + sI ν c k 4))] [.int (nI (sC ν c k (8 * 1) 2 + sI ν c k 4)), .int (nI (sC ν c k (8 * 1) 2 + sI ν c k 4))] (zm μ (J, 11, ν)) (u + 0 + 3 + 3 + 3 + 0) (us + 0 + 18 + 18 + 18 + 0)
      refine z_icmp_eq 680 (by decide) dL_right_675 (fun _ => ?_) (fun h => absurd rfl h)
      refine z_iload rfl dL_right_680 ?_
      refine z_iload rfl dL_right_682 ?_
      refine z_icmp_le 695 (by decide) dL_right_684 (fun h684t => ?_) (fun h684f => ?_)
      · refine z_iinc (nI (k + 1)) rfl (zincN _ 1) (by decide) rfl dL_right_695 ?_
        refine z_goto 595 (by decide) dL_right_698 ?_
        refine z_fgt [.ref (1), .ref (J 0), .ref (J 1), .ref (J 2), .ref (J 3), .ref (J 4), .ref (J 5), .int (nI nc), .int (nI c), .null, .null, .null, .null, .null, .int (b), .int (m), .int (nI (k + 1)), .null] ⟨Or.inl rfl, ⟨Or.inl rfl, ⟨Or.inl rfl, ⟨Or.inl rfl, ⟨Or.inl rfl, ⟨Or.inl rfl, ⟨Or.inl rfl, ⟨Or.inl rfl, ⟨Or.inl rfl, ⟨Or.inl rfl, ⟨Or.inl rfl, ⟨Or.inl rfl, ⟨Or.inl rfl, ⟨Or.inl rfl, ⟨Or.inl rfl, ⟨Or.inl rfl, ⟨Or.inl rfl, ⟨Or.inr rfl, trivial⟩⟩⟩⟩⟩⟩⟩⟩⟩⟩⟩⟩⟩⟩⟩⟩⟩⟩ ?_
        exact ih (c - (k + 1)) (by omega) (k + 1) b m _ _ rfl (by omega) (by rw [zit_s, he, Nat.zero_add, ckin, shared_eq (N := 8) hn5 hn4 (by omega) (by omega) hT hK hB (Or.inl ⟨rfl, rfl⟩)]; exact if_pos h684t) (by show u + 0 + 3 + 3 + 3 + 0 ≤ _; omega) (by show us + 0 + 18 + 18 + 18 + 0 ≤ 6 * (u + 0 + 3 + 3 + 3 + 0); omega)
      · refine z_iload rfl dL_right_687 ?_
        refine z_istore (by decide) rfl dL_right_689 ?_
        refine z_iload rfl dL_right_691 ?_
        refine z_istore (by decide) rfl dL_right_693 ?_
        refine z_iinc (nI (k + 1)) rfl (zincN _ 1) (by decide) rfl dL_right_695 ?_
        refine z_goto 595 (by decide) dL_right_698 ?_
        refine z_fgt [.ref (1), .ref (J 0), .ref (J 1), .ref (J 2), .ref (J 3), .ref (J 4), .ref (J 5), .int (nI nc), .int (nI c), .null, .null, .null, .null, .null, .int (nI k), .int (nI (sC ν c k (8 * 0) 8 + sI ν c k 4)), .int (nI (k + 1)), .null] ⟨Or.inl rfl, ⟨Or.inl rfl, ⟨Or.inl rfl, ⟨Or.inl rfl, ⟨Or.inl rfl, ⟨Or.inl rfl, ⟨Or.inl rfl, ⟨Or.inl rfl, ⟨Or.inl rfl, ⟨Or.inl rfl, ⟨Or.inl rfl, ⟨Or.inl rfl, ⟨Or.inl rfl, ⟨Or.inl rfl, ⟨Or.inl rfl, ⟨Or.inl rfl, ⟨Or.inl rfl, ⟨Or.inr rfl, trivial⟩⟩⟩⟩⟩⟩⟩⟩⟩⟩⟩⟩⟩⟩⟩⟩⟩⟩ ?_
        exact ih (c - (k + 1)) (by omega) (k + 1) (nI k) (nI (sC ν c k (8 * 0) 8 + sI ν c k 4)) _ _ rfl (by omega) (by rw [zit_s, he, Nat.zero_add, ckin, shared_eq (N := 8) hn5 hn4 (by omega) (by omega) hT hK hB (Or.inl ⟨rfl, rfl⟩)]; exact if_neg h684f) (by show u + 0 + 3 + 3 + 3 + 0 ≤ _; omega) (by show us + 0 + 18 + 18 + 18 + 0 ≤ 6 * (u + 0 + 3 + 3 + 3 + 0); omega)
set_option maxRecDepth 100000 in
set_option maxHeartbeats 4000000 in
theorem lp_R1 {E : Nat × (Nat → Int32)} {μ : zMu} {J : Nat → Nat} {ν : zMu} {o : zO} {nc nr ni : Nat} {rf rt : Nat → Nat} (hI : iv μ ν nc nr ni rf rt)  (ho : o = (.inl (some (.int (nI 1))), zm μ (J, 11, ν))) : ∀ (n : Nat) (c u us : Nat), nc - c = n → c ≤ nc → u ≤ 352 * c → us ≤ 6 * u → zV false E kL_right 116 o 3 [.ref (1), .ref (J 0), .ref (J 1), .ref (J 2), .ref (J 3), .ref (J 4), .ref (J 5), .int (nI nc), .int (nI c), .null, .null, .null, .null, .null, .null, .null, .null, .null] [] (zm μ (J, 11, ν)) u us := by
  intro n
  induction n using Nat.strongRecOn with
  | ind n ih =>
    intro c u us e hcn hu hus
    obtain ⟨⟨⟨hnc, hn5⟩, -, ⟨hni, hn4⟩⟩, hT, -, -, hB, hK, hA⟩ := id hI
    have hn12 : nc ≤ 12 := by omega
    refine z_iload rfl dL_right_3 ?_
    refine z_iload rfl dL_right_5 ?_
    refine z_icmp_ge 721 (by decide) dL_right_7 (z_br (zcn (n := nc) (by omega) (c) (by omega)).2.2 (fun h7t => ?_)) (z_brn (zcn (n := nc) (by omega) (c) (by omega)).2.2 (fun h7f => ?_))
    · refine z_iconst (nI 1) (by decide) dL_right_721 ?_
      exact z_iret ho rfl (zbn (Or.inr rfl)) (by show u ≤ 1760; omega) (by show us ≤ 10560; omega) dL_right_722
    · have hc : c < nc := by omega
      refine z_iconst (nI 0) (by decide) dL_right_10 ?_
      refine z_istore (by decide) rfl dL_right_11 ?_
      refine z_iconst (nI 0) (by decide) dL_right_13 ?_
      refine z_istore (by decide) rfl dL_right_14 ?_
      refine z_fgt [.ref (1), .ref (J 0), .ref (J 1), .ref (J 2), .ref (J 3), .ref (J 4), .ref (J 5), .int (nI nc), .int (nI c), .int (nI 0), .int (nI 0), .null, .null, .null, .null, .null, .null, .null] ⟨Or.inl rfl, ⟨Or.inl rfl, ⟨Or.inl rfl, ⟨Or.inl rfl, ⟨Or.inl rfl, ⟨Or.inl rfl, ⟨Or.inl rfl, ⟨Or.inl rfl, ⟨Or.inl rfl, ⟨Or.inl rfl, ⟨Or.inl rfl, ⟨Or.inl rfl, ⟨Or.inl rfl, ⟨Or.inl rfl, ⟨Or.inl rfl, ⟨Or.inl rfl, ⟨Or.inl rfl, ⟨Or.inl rfl, trivial⟩⟩⟩⟩⟩⟩⟩⟩⟩⟩⟩⟩⟩⟩⟩⟩⟩⟩ ?_
      refine lp_R2 hI hc (fun u1 us1 hu1 hus1 => ?_) _ 0 (nI 0) _ _ rfl (by omega) rfl (by omega) (by omega)
      refine z_aload_n rfl rfl dL_right_308 ?_
      refine z_iload rfl dL_right_309 ?_
      refine z_iconst (nI 1) (by decide) dL_right_311 ?_
      refine z_callV (as := [.int (nI c), .int (nI 1)]) (by have h := ct_X7_of (E := E) (μ := μ) (g := (J, 11, ν)) hnc hn12 (c := c) (by omega) (w := 1) (by omega); rw [show zof μ c 1 = zit (ckn μ c) 0 10 (nI 0) from kn24 (hK c hc).2.2.2] at h; exact h) ko_X7_of kl_L_30 rfl (zl_a rfl rfl) rfl rfl ⟨by decide, by decide, by show u1 + 2 ≤ 1760; omega, by show us1 + 12 ≤ 10560; omega⟩ (Nat.le_of_ble_eq_true rfl) rfl dL_right_312 ?_
      show zV false E kL_right 116 o 315 [.ref (1), .ref (J 0), .ref (J 1), .ref (J 2), .ref (J 3), .ref (J 4), .ref (J 5), .int (nI nc), .int (nI c), .int (zit (ckn μ c) 0 10 (nI 0)), .null, .null, .null, .null, .null, .null, .null, .null] [.int (zit (ckn μ c) 0 10 (nI 0))] (zm μ (J, 11, ν)) (u1 + 2) (us1 + 12)
      refine z_iload rfl dL_right_315 ?_
      refine z_icmp_eq 322 (by decide) dL_right_317 (fun _ => ?_) (fun h => absurd rfl h)
      refine z_iconst (nI 0) (by decide) dL_right_322 ?_
      refine z_istore (by decide) rfl dL_right_323 ?_
      refine z_iconst (nI 0) (by decide) dL_right_325 ?_
      refine z_istore (by decide) rfl dL_right_326 ?_
      refine z_iconst (nI 0) (by decide) dL_right_328 ?_
      refine z_istore (by decide) rfl dL_right_329 ?_
      refine z_iconst (nI 0) (by decide) dL_right_331 ?_
      refine z_istore (by decide) rfl dL_right_332 ?_
      refine z_fgt [.ref (1), .ref (J 0), .ref (J 1), .ref (J 2), .ref (J 3), .ref (J 4), .ref (J 5), .int (nI nc), .int (nI c), .null, .int (nI 0), .int (nI 0), .int (nI 0), .int (nI 0), .null, .null, .null, .null] ⟨Or.inl rfl, ⟨Or.inl rfl, ⟨Or.inl rfl, ⟨Or.inl rfl, ⟨Or.inl rfl, ⟨Or.inl rfl, ⟨Or.inl rfl, ⟨Or.inl rfl, ⟨Or.inl rfl, ⟨Or.inr rfl, ⟨Or.inl rfl, ⟨Or.inl rfl, ⟨Or.inl rfl, ⟨Or.inl rfl, ⟨Or.inl rfl, ⟨Or.inl rfl, ⟨Or.inl rfl, ⟨Or.inl rfl, trivial⟩⟩⟩⟩⟩⟩⟩⟩⟩⟩⟩⟩⟩⟩⟩⟩⟩⟩ ?_
      refine lp_R4 hI hc (fun k sx sy hk8 e1 e2 => ?_) _ 0 0 (nI 0) (nI 0) rfl (by omega) (by omega) rfl rfl
      have sec : zV false E kL_right 116 o 446 [.ref (1), .ref (J 0), .ref (J 1), .ref (J 2), .ref (J 3), .ref (J 4), .ref (J 5), .int (nI nc), .int (nI c), .null, .int (cshift μ c 0 34 3), .int (cshift μ c 0 35 4), .null, .null, .null, .null, .null, .null] [] (zm μ (J, 11, ν)) (u1 + 2) (us1 + 12) := by
        refine z_iconst (nI 0) (by decide) dL_right_446 ?_
        refine z_istore (by decide) rfl dL_right_447 ?_
        refine z_iconst (nI 0) (by decide) dL_right_449 ?_
        refine z_istore (by decide) rfl dL_right_450 ?_
        refine z_fgt [.ref (1), .ref (J 0), .ref (J 1), .ref (J 2), .ref (J 3), .ref (J 4), .ref (J 5), .int (nI nc), .int (nI c), .null, .int (cshift μ c 0 34 3), .int (cshift μ c 0 35 4), .null, .int (nI 0), .int (nI 0), .null, .null, .null] ⟨Or.inl rfl, ⟨Or.inl rfl, ⟨Or.inl rfl, ⟨Or.inl rfl, ⟨Or.inl rfl, ⟨Or.inl rfl, ⟨Or.inl rfl, ⟨Or.inl rfl, ⟨Or.inl rfl, ⟨Or.inl rfl, ⟨Or.inl rfl, ⟨Or.inl rfl, ⟨Or.inl rfl, ⟨Or.inl rfl, ⟨Or.inl rfl, ⟨Or.inl rfl, ⟨Or.inl rfl, ⟨Or.inl rfl, trivial⟩⟩⟩⟩⟩⟩⟩⟩⟩⟩⟩⟩⟩⟩⟩⟩⟩⟩ ?_
        refine lp_R5 hI hc (by omega) (by omega) ?_ _ 0 (nI 0) rfl (by omega) rfl
        refine z_aload_n rfl rfl dL_right_534 ?_
        refine z_iload rfl dL_right_535 ?_
        refine z_iconst (nI 0) (by decide) dL_right_537 ?_
        refine z_iconst (nI 0) (by decide) dL_right_538 ?_
        refine z_callV (as := [.int (nI c), .int (nI 0), .int (nI 0)]) (ct_X7_fit (E := E) (μ := μ) (g := (J, 11, ν)) hnc hn12 (c := c) (by omega) (b := 0) (by omega) (w := 0) (by omega)) ko_X7_fit kl_L_40 rfl (zl_a rfl rfl) rfl rfl ⟨by decide, by decide, by show u1 + 2 + 3 ≤ 1760; omega, by show us1 + 12 + 18 ≤ 10560; omega⟩ (Nat.le_of_ble_eq_true rfl) rfl dL_right_539 ?_
        show zV false E kL_right 116 o 542 [.ref (1), .ref (J 0), .ref (J 1), .ref (J 2), .ref (J 3), .ref (J 4), .ref (J 5), .int (nI nc), .int (nI c), .null, .int (cshift μ c 0 34 3), .int (cshift μ c 0 35 4), .null, .int (zit (cres μ c (cshift μ c 0 34 3) (cshift μ c 0 35 4)) 0 8 (nI 0)), .null, .null, .null, .null] [.int (cshift μ c 0 34 3)] (zm μ (J, 11, ν)) (u1 + 2 + 3) (us1 + 12 + 18)
        refine z_iload rfl dL_right_542 ?_
        refine z_icmp_ne 584 (by decide) dL_right_544 (fun h => absurd rfl h) (fun _ => ?_)
        refine z_aload_n rfl rfl dL_right_547 ?_
        refine z_iload rfl dL_right_548 ?_
        refine z_iconst (nI 0) (by decide) dL_right_550 ?_
        refine z_iconst (nI 1) (by decide) dL_right_551 ?_
        refine z_callV (as := [.int (nI c), .int (nI 0), .int (nI 1)]) (ct_X7_fit (E := E) (μ := μ) (g := (J, 11, ν)) hnc hn12 (c := c) (by omega) (b := 0) (by omega) (w := 1) (by omega)) ko_X7_fit kl_L_40 rfl (zl_a rfl rfl) rfl rfl ⟨by decide, by decide, by show u1 + 2 + 3 + 3 ≤ 1760; omega, by show us1 + 12 + 18 + 18 ≤ 10560; omega⟩ (Nat.le_of_ble_eq_true rfl) rfl dL_right_552 ?_
        show zV false E kL_right 116 o 555 [.ref (1), .ref (J 0), .ref (J 1), .ref (J 2), .ref (J 3), .ref (J 4), .ref (J 5), .int (nI nc), .int (nI c), .null, .int (cshift μ c 0 34 3), .int (cshift μ c 0 35 4), .null, .int (zit (cres μ c (cshift μ c 0 34 3) (cshift μ c 0 35 4)) 0 8 (nI 0)), .null, .null, .null, .null] [.int (cshift μ c 0 35 4)] (zm μ (J, 11, ν)) (u1 + 2 + 3 + 3) (us1 + 12 + 18 + 18)
        refine z_iload rfl dL_right_555 ?_
        refine z_icmp_ne 584 (by decide) dL_right_557 (fun h => absurd rfl h) (fun _ => ?_)
        refine z_aload_n rfl rfl dL_right_560 ?_
        refine z_iload rfl dL_right_561 ?_
        refine z_iconst (nI 0) (by decide) dL_right_563 ?_
        refine z_iconst (nI 2) (by decide) dL_right_564 ?_
        refine z_callV (as := [.int (nI c), .int (nI 0), .int (nI 2)]) (ct_X7_fit (E := E) (μ := μ) (g := (J, 11, ν)) hnc hn12 (c := c) (by omega) (b := 0) (by omega) (w := 2) (by omega)) ko_X7_fit kl_L_40 rfl (zl_a rfl rfl) rfl rfl ⟨by decide, by decide, by show u1 + 2 + 3 + 3 + 3 ≤ 1760; omega, by show us1 + 12 + 18 + 18 + 18 ≤ 10560; omega⟩ (Nat.le_of_ble_eq_true rfl) rfl dL_right_565 ?_
        show zV false E kL_right 116 o 568 [.ref (1), .ref (J 0), .ref (J 1), .ref (J 2), .ref (J 3), .ref (J 4), .ref (J 5), .int (nI nc), .int (nI c), .null, .int (cshift μ c 0 34 3), .int (cshift μ c 0 35 4), .null, .int (zit (cres μ c (cshift μ c 0 34 3) (cshift μ c 0 35 4)) 0 8 (nI 0)), .null, .null, .null, .null] [.int (zit (cres μ c (cshift μ c 0 34 3) (cshift μ c 0 35 4)) 0 8 (nI 0))] (zm μ (J, 11, ν)) (u1 + 2 + 3 + 3 + 3) (us1 + 12 + 18 + 18 + 18)
        refine z_iload rfl dL_right_568 ?_
        refine z_icmp_ne 584 (by decide) dL_right_570 (fun h => absurd rfl h) (fun _ => ?_)
        refine z_aload_n rfl rfl dL_right_573 ?_
        refine z_iload rfl dL_right_574 ?_
        refine z_iconst (nI 2) (by decide) dL_right_576 ?_
        refine z_iconst (nI 2) (by decide) dL_right_577 ?_
        refine z_callV (as := [.int (nI c), .int (nI 2), .int (nI 2)]) (by have h := ct_X7_fit (E := E) (μ := μ) (g := (J, 11, ν)) hnc hn12 (c := c) (by omega) (b := 2) (by omega) (w := 2) (by omega); rw [fit22 (hK c hc).2.2.2] at h; exact h) ko_X7_fit kl_L_40 rfl (zl_a rfl rfl) rfl rfl ⟨by decide, by decide, by show u1 + 2 + 3 + 3 + 3 + 3 ≤ 1760; omega, by show us1 + 12 + 18 + 18 + 18 + 18 ≤ 10560; omega⟩ (Nat.le_of_ble_eq_true rfl) rfl dL_right_578 ?_
        show zV false E kL_right 116 o 581 [.ref (1), .ref (J 0), .ref (J 1), .ref (J 2), .ref (J 3), .ref (J 4), .ref (J 5), .int (nI nc), .int (nI c), .null, .int (cshift μ c 0 34 3), .int (cshift μ c 0 35 4), .null, .int (zit (cres μ c (cshift μ c 0 34 3) (cshift μ c 0 35 4)) 0 8 (nI 0)), .null, .null, .null, .null] [.int (0)] (zm μ (J, 11, ν)) (u1 + 2 + 3 + 3 + 3 + 3) (us1 + 12 + 18 + 18 + 18 + 18)
        refine z_if_eq 586 (by decide) dL_right_581 (fun _ => ?_) (fun h => absurd h (by decide))
        refine z_iconst (-1) (by decide) dL_right_586 ?_
        refine z_istore (by decide) rfl dL_right_587 ?_
        refine z_iconst (nI 0) (by decide) dL_right_589 ?_
        refine z_istore (by decide) rfl dL_right_590 ?_
        refine z_iconst (nI 0) (by decide) dL_right_592 ?_
        refine z_istore (by decide) rfl dL_right_593 ?_
        refine z_fgt [.ref (1), .ref (J 0), .ref (J 1), .ref (J 2), .ref (J 3), .ref (J 4), .ref (J 5), .int (nI nc), .int (nI c), .null, .null, .null, .null, .null, .int (-1), .int (nI 0), .int (nI 0), .null] ⟨Or.inl rfl, ⟨Or.inl rfl, ⟨Or.inl rfl, ⟨Or.inl rfl, ⟨Or.inl rfl, ⟨Or.inl rfl, ⟨Or.inl rfl, ⟨Or.inl rfl, ⟨Or.inl rfl, ⟨Or.inl rfl, ⟨Or.inr rfl, ⟨Or.inr rfl, ⟨Or.inl rfl, ⟨Or.inr rfl, ⟨Or.inl rfl, ⟨Or.inl rfl, ⟨Or.inl rfl, ⟨Or.inl rfl, trivial⟩⟩⟩⟩⟩⟩⟩⟩⟩⟩⟩⟩⟩⟩⟩⟩⟩⟩ ?_
        refine lp_R6 hI hc (U := 352 * c + 314) (by omega) (fun u2 us2 hu2 hus2 => ?_) _ 0 (-1) (nI 0) _ _ rfl (by omega) rfl (by show u1 + 2 + 3 + 3 + 3 + 3 ≤ _; omega) (by show us1 + 12 + 18 + 18 + 18 + 18 ≤ 6 * (u1 + 2 + 3 + 3 + 3 + 3); omega)
        refine z_aload_n rfl rfl dL_right_701 ?_
        refine z_iload rfl dL_right_702 ?_
        refine z_iconst (nI 0) (by decide) dL_right_704 ?_
        refine z_callV (as := [.int (nI c), .int (nI 0)]) (ct_X7_kin (E := E) (μ := μ) (g := (J, 11, ν)) hnc hn12 (c := c) (by omega) (b := 0) (by omega)) ko_X7_kin kl_L_49 rfl (zl_a rfl rfl) rfl rfl ⟨by decide, by decide, by show u2 + 2 ≤ 1760; omega, by show us2 + 12 ≤ 10560; omega⟩ (Nat.le_of_ble_eq_true rfl) rfl dL_right_705 ?_
        show zV false E kL_right 116 o 708 [.ref (1), .ref (J 0), .ref (J 1), .ref (J 2), .ref (J 3), .ref (J 4), .ref (J 5), .int (nI nc), .int (nI c), .null, .null, .null, .null, .null, .int ((zit (ckin μ c 0) 0 c (-1, nI 0)).1), .null, .null, .null] [.int ((zit (ckin μ c 0) 0 c (-1, nI 0)).1)] (zm μ (J, 11, ν)) (u2 + 2) (us2 + 12)
        refine z_iload rfl dL_right_708 ?_
        refine z_icmp_eq 715 (by decide) dL_right_710 (fun _ => ?_) (fun h => absurd rfl h)
        refine z_iinc (nI (c + 1)) rfl (zincN _ 1) (by decide) rfl dL_right_715 ?_
        refine z_goto 3 (by decide) dL_right_718 ?_
        refine z_fgt [.ref (1), .ref (J 0), .ref (J 1), .ref (J 2), .ref (J 3), .ref (J 4), .ref (J 5), .int (nI nc), .int (nI (c + 1)), .null, .null, .null, .null, .null, .null, .null, .null, .null] ⟨Or.inl rfl, ⟨Or.inl rfl, ⟨Or.inl rfl, ⟨Or.inl rfl, ⟨Or.inl rfl, ⟨Or.inl rfl, ⟨Or.inl rfl, ⟨Or.inl rfl, ⟨Or.inl rfl, ⟨Or.inl rfl, ⟨Or.inl rfl, ⟨Or.inl rfl, ⟨Or.inl rfl, ⟨Or.inl rfl, ⟨Or.inr rfl, ⟨Or.inl rfl, ⟨Or.inl rfl, ⟨Or.inl rfl, trivial⟩⟩⟩⟩⟩⟩⟩⟩⟩⟩⟩⟩⟩⟩⟩⟩⟩⟩ ?_
        exact ih (nc - (c + 1)) (by omega) (c + 1) _ _ rfl (by omega) (by show u2 + 2 ≤ _; omega) (by show us2 + 12 ≤ 6 * (u2 + 2); omega)
      refine z_iload rfl dL_right_414 ?_
      refine z_if_ne 423 (by decide) dL_right_416 (z_brn (z0e (n := k) (by omega)) (fun h416t => ?_)) (z_br (z0e (n := k) (by omega)) (fun h416f => ?_))
      · refine z_iload rfl dL_right_423 ?_
        refine z_iload rfl dL_right_425 ?_
        refine z_idiv (fun q => h416t ((z0e (n := k) (by omega)).mp q)) dL_right_427 ?_
        refine z_istore (by decide) rfl dL_right_428 ?_
        refine z_iload rfl dL_right_430 ?_
        refine z_if_ne 439 (by decide) dL_right_432 (fun h432t => ?_) (fun h432f => ((h416t ((z0e (n := k) (by omega)).mp h432f) : False)).elim)
        refine z_iload rfl dL_right_439 ?_
        refine z_iload rfl dL_right_441 ?_
        refine z_idiv (fun q => h416t ((z0e (n := k) (by omega)).mp q)) dL_right_443 ?_
        refine z_istore (by decide) rfl dL_right_444 ?_
        refine z_fgt [.ref (1), .ref (J 0), .ref (J 1), .ref (J 2), .ref (J 3), .ref (J 4), .ref (J 5), .int (nI nc), .int (nI c), .null, .int (sx / (nI k)), .int (sy / (nI k)), .null, .null, .null, .null, .null, .null] ⟨Or.inl rfl, ⟨Or.inl rfl, ⟨Or.inl rfl, ⟨Or.inl rfl, ⟨Or.inl rfl, ⟨Or.inl rfl, ⟨Or.inl rfl, ⟨Or.inl rfl, ⟨Or.inl rfl, ⟨Or.inl rfl, ⟨Or.inl rfl, ⟨Or.inl rfl, ⟨Or.inr rfl, ⟨Or.inl rfl, ⟨Or.inl rfl, ⟨Or.inl rfl, ⟨Or.inl rfl, ⟨Or.inl rfl, trivial⟩⟩⟩⟩⟩⟩⟩⟩⟩⟩⟩⟩⟩⟩⟩⟩⟩⟩ ?_
        exact z_lseq (by rw [cshift_0 e1 hk8, cshift_0 e2 hk8, if_neg h416t, if_neg h416t]) sec
      · refine z_iconst (nI 0) (by decide) dL_right_419 ?_
        refine z_goto 428 (by decide) dL_right_420 ?_
        refine z_istore (by decide) rfl dL_right_428 ?_
        refine z_iload rfl dL_right_430 ?_
        refine z_if_ne 439 (by decide) dL_right_432 (fun h432t => ((h432t ((z0e (n := k) (by omega)).mpr h416f) : False)).elim) (fun h432f => ?_)
        refine z_iconst (nI 0) (by decide) dL_right_435 ?_
        refine z_goto 444 (by decide) dL_right_436 ?_
        refine z_istore (by decide) rfl dL_right_444 ?_
        refine z_fgt [.ref (1), .ref (J 0), .ref (J 1), .ref (J 2), .ref (J 3), .ref (J 4), .ref (J 5), .int (nI nc), .int (nI c), .null, .int (nI 0), .int (nI 0), .null, .null, .null, .null, .null, .null] ⟨Or.inl rfl, ⟨Or.inl rfl, ⟨Or.inl rfl, ⟨Or.inl rfl, ⟨Or.inl rfl, ⟨Or.inl rfl, ⟨Or.inl rfl, ⟨Or.inl rfl, ⟨Or.inl rfl, ⟨Or.inl rfl, ⟨Or.inl rfl, ⟨Or.inl rfl, ⟨Or.inr rfl, ⟨Or.inl rfl, ⟨Or.inl rfl, ⟨Or.inl rfl, ⟨Or.inl rfl, ⟨Or.inl rfl, trivial⟩⟩⟩⟩⟩⟩⟩⟩⟩⟩⟩⟩⟩⟩⟩⟩⟩⟩ ?_
        exact z_lseq (by rw [cshift_0 e1 hk8, cshift_0 e2 hk8, if_pos h416f, if_pos h416f]) sec
set_option maxRecDepth 100000 in
set_option maxHeartbeats 4000000 in
theorem ct_L_right {E : Nat × (Nat → Int32)} {μ : zMu} {J : Nat → Nat} {ν : zMu} {nc nr ni : Nat} {rf rt : Nat → Nat} (hI : iv μ ν nc nr ni rf rt)  : zCt E kL_right [.ref (1), .ref (J 0), .ref (J 1), .ref (J 2), .ref (J 3), .ref (J 4), .ref (J 5), .int (nI nc)] (zm μ (J, 11, ν)) (.inl (some (.int (nI 1))), zm μ (J, 11, ν)) := by
  refine zCt_of ko_L_right (Nat.le_of_ble_eq_true rfl) (zas_r (zas_r (zas_r (zas_r (zas_r (zas_r (zas_r (zas_i zas_0)))))))) ⟨Nat.le_refl _, fun h => absurd h (Nat.lt_irrefl _)⟩ (Nat.le_of_ble_eq_true rfl) ?_
  show zV false E kL_right 116 _ 0 [.ref (1), .ref (J 0), .ref (J 1), .ref (J 2), .ref (J 3), .ref (J 4), .ref (J 5), .int (nI nc), .null, .null, .null, .null, .null, .null, .null, .null, .null, .null] [] (zm μ (J, 11, ν)) 0 0
  refine z_iconst (nI 0) (by decide) dL_right_0 ?_
  refine z_istore (by decide) rfl dL_right_1 ?_
  exact lp_R1 hI rfl _ 0 0 0 rfl (by omega) (by omega) (by omega)
