/-! paste -/
theorem cmv_eq {μ : zMu} {nc a b f : Nat} (ha : a < 12) (hb : b < 12) (h1 : rQ μ nc a f) (h2 : rQ μ nc b f) : cmv μ a b f 34 = dmv μ a b f 131 ∧ cmv μ a b f 35 = dmv μ a b f 132 := by
  have k1 := zkn_iff ha h1
  have k2 := zkn_iff hb h2
  unfold cmv dmv
  rcases h1.2.2 with ⟨a0, ⟨a1, a2⟩, -⟩ | ⟨a0, -⟩
  · rcases h2.2.2 with ⟨b0, ⟨b1, b2⟩, -⟩ | ⟨b0, -⟩
    · have hk : zkn μ a f ∧ zkn μ b f := ⟨k1.mpr a0, k2.mpr b0⟩
      rw [if_pos hk, if_pos hk, if_pos (And.intro a0 b0), if_pos (And.intro a0 b0), a1, a2, b1, b2]
      exact ⟨rfl, rfl⟩
    · have hk : ¬ (zkn μ a f ∧ zkn μ b f) := fun q => k2.mp q.2 b0
      have hk2 : ¬ (¬ μ 130 (24 * a + f) = 0 ∧ ¬ μ 130 (24 * b + f) = 0) := fun q => q.2 b0
      rw [if_neg hk, if_neg hk, if_neg hk2, if_neg hk2]
      exact ⟨rfl, rfl⟩
  · have hk : ¬ (zkn μ a f ∧ zkn μ b f) := fun q => k1.mp q.1 a0
    have hk2 : ¬ (¬ μ 130 (24 * a + f) = 0 ∧ ¬ μ 130 (24 * b + f) = 0) := fun q => q.1 a0
    rw [if_neg hk, if_neg hk, if_neg hk2, if_neg hk2]
    exact ⟨rfl, rfl⟩
theorem cmvP_eq {μ : zMu} {nc b p : Nat} {x y : Int32} (hb : b < 12) (h : rQ μ nc b p) : cmvP μ b x y p ↔ znr μ (24 * b + p) x y := by
  have k1 := zkn_iff hb h
  rcases h.2.2 with ⟨a0, ⟨a1, a2⟩, -⟩ | ⟨a0, -⟩
  · unfold cmvP znr
    rw [a1, a2]
    exact ⟨fun q => Or.inr (q (k1.mpr a0)), fun q _ => q.elim (fun q => absurd q a0) id⟩
  · exact ⟨fun _ => Or.inl a0, fun _ q => absurd a0 (k1.mp q)⟩
theorem pok {μ : zMu} {nc a b f n : Nat} {X Y : Int32} (hn : nc ≤ 12) (ha : a < nc) (hb : b < nc) (hab : a ≠ b) (hfn : f + n ≤ 24) (hK : rK μ nc) :
    (μ (33 + 7 * b) 0 ≤ μ (33 + 7 * a) 0 ∧ ¬ zlb μ nc (nI a) b f n ∧ ∀ i, i < n → cmvP μ b X Y (f + i)) ↔ (¬ μ 128 a < μ 128 b ∧ ∀ i, i < n → dpP μ a b 13 X Y (f + i)) := by
  have ea := (hK a ha).1
  have eb := (hK b hb).1
  constructor
  · rintro ⟨h1, h2, h3⟩
    refine ⟨?_, fun i hi => ⟨fun q => h2 ⟨i, hi, (zld_hit hn (by omega) hK ha hb hab).mpr q⟩, (cmvP_eq (by omega) ((hK b hb).2.2 _ (by omega))).mp (h3 i hi)⟩⟩
    rw [← ea, ← eb]
    exact Int32.not_lt.mpr h1
  · rintro ⟨h1, h2⟩
    rw [← ea, ← eb] at h1
    refine ⟨Int32.not_lt.mp h1, fun ⟨i, hi, q⟩ => (h2 i hi).1 ((zld_hit hn (by omega) hK ha hb hab).mp q), fun i hi => (cmvP_eq (by omega) ((hK b hb).2.2 _ (by omega))).mpr (h2 i hi).2⟩
theorem za_paste {E : Nat × (Nat → Int32)} {μ : zMu} {x1 x2 x3 x4 x5 : Int32} (hI : zInv μ) : zAll zInv E μ x1 x2 x3 x4 x5 7 := by
  obtain ⟨nc, nr, np, ni, rf, rt, hN, hC, hP, hL, hY, hI', hB, hF, hK, hA⟩ := id hI
  have h12 := hN.1.2.2
  by_cases hb : zrg nc x1 ∧ zrg nc x2 ∧ zrg 24 x3 ∧ zrg 24 x4
  · obtain ⟨a, ha, rfl⟩ := zrg_of hb.1 (by omega)
    obtain ⟨b, hb9, rfl⟩ := zrg_of hb.2.1 (by omega)
    obtain ⟨f, hf, rfl⟩ := zrg_of hb.2.2.1 (by omega)
    obtain ⟨t, ht, rfl⟩ := zrg_of hb.2.2.2 (by omega)
    have hst : ∀ p, p < 24 → dst μ p a 13 (dl0 μ b p) := fun p hp => by
      obtain ⟨g, g1, g2⟩ := rA_b hA h12 hp
      by_cases h0 : μ 130 (24 * b + p) = 0
      · rw [dl0, if_pos h0]; exact Or.inl rfl
      · rw [dl0, if_neg h0]; exact dst_of h12 hp hK g2 12 b hb9 (g1 b hb9)
    by_cases hz : ¬ a = b ∧ f ≤ t
    · have hab := hz.1
      have hft := hz.2
      obtain ⟨n, hn⟩ : ∃ n, n = t + 1 - f := ⟨_, rfl⟩
      obtain ⟨eX, eY⟩ := cmv_eq (by omega) (by omega) ((hK a ha).2.2 f hf) ((hK b hb9).2.2 f hf)
      have hcm : ∃ X Y, X = cmv μ a b f 34 ∧ Y = cmv μ a b f 35 := ⟨_, _, rfl, rfl⟩
      obtain ⟨X, Y, hX, hY9⟩ := hcm
      rw [← hX] at eX
      rw [← hY9] at eY
      have hiff := pok (X := X) (Y := Y) h12 ha hb9 hab (show f + n ≤ 24 by omega) hK
      by_cases hok : μ (33 + 7 * b) 0 ≤ μ (33 + 7 * a) 0 ∧ ¬ zlb μ nc (nI a) b f n ∧ ∀ i, i < n → cmvP μ b X Y (f + i)
      · left
        have c1 := cpa_f (f := f) (n := n) (x := X) (y := Y) hab μ
        obtain ⟨μ1, hμ1⟩ : ∃ μ1, μ1 = zit (cpa a b X Y) f n μ := ⟨_, rfl⟩
        rw [← hμ1] at c1
        have o1 : ∀ k, 116 < k → μ1 k = μ k := fun k hk => funext fun j => c1.2 k j (fun q => by have := q.1; omega)
        have c2 := dpab_f (f := f) (n := n) (x := X) (y := Y) hab (by omega) (zu μ1 117 0 (nI 0))
        have eR := dpa_eq (f := f) (x := X) (y := Y) hab (zu μ1 117 0 (nI 0)) n (by omega) (nI 0)
        obtain ⟨ν, hν⟩ : ∃ ν, ν = zit (dpab a b X Y) f n (zu μ1 117 0 (nI 0)) := ⟨_, rfl⟩
        rw [← hν] at c2 eR
        have hkn : ∀ i, i < n → (zkn μ1 a (f + i) ↔ ¬ μ 130 (24 * b + (f + i)) = 0) := fun i hi => by
          obtain ⟨-, q1, -⟩ := c1.1 (f + i) (by omega) (by omega)
          have k1 := zkn_iff (show b < 12 by omega) ((hK b hb9).2.2 (f + i) (by omega))
          unfold zkn
          rw [q1]
          by_cases hk : zkn μ b (f + i)
          · rw [if_pos hk]
            exact ⟨fun _ => k1.mp hk, fun _ => rb_kn (n := 9999) (by omega) (rb_zin (by omega) (hok.2.2 i hi hk).1)⟩
          · rw [if_neg hk]
            exact ⟨fun q => absurd rfl q, fun q => absurd (k1.mpr q) hk⟩
        have eC : zit (dcnt (zu μ1 117 0 (nI 0)) b) f n (nI 0) = zit (ckn μ1 a) f n (nI 0) := by
          refine zit_congr n (fun i hi s => ?_) _
          have q1 := hkn i hi
          rw [dcnt, ckn, zu_r (show 130 ≠ 117 by omega), o1 130 (by omega)]
          by_cases h0 : μ 130 (24 * b + (f + i)) = 0
          · rw [if_pos h0, if_neg (fun q => q1.mp q h0), add_0]
          · rw [if_neg h0, if_pos (q1.mpr h0), n1e]
        rw [eC] at eR
        have o130 := o1 130 (by omega)
        have o134 := o1 134 (by omega)
        have ed1 : dmv μ1 a b f 131 = X := by unfold dmv; rw [o130, o1 131 (by omega)]; exact eX.symm
        have ed2 : dmv μ1 a b f 132 = Y := by unfold dmv; rw [o130, o1 132 (by omega)]; exact eY.symm
        have hdP : ¬ μ1 128 a < μ1 128 b ∧ ∀ i, i < t + 1 - f → dpP μ1 a b 13 (dmv μ1 a b f 131) (dmv μ1 a b f 132) (f + i) := by
          rw [ed1, ed2, o1 128 (by omega), ← hn]
          obtain ⟨q1, q2⟩ := hiff.mp hok
          refine ⟨q1, fun i hi => ?_⟩
          obtain ⟨r1, r2⟩ := q2 i hi
          refine ⟨fun q => r1 ?_, ?_⟩
          · unfold dl0 at q ⊢
            rw [o130] at q
            exact (dhit_c o130 o134 13 _).mp q
          · unfold znr at r2 ⊢
            rw [o130, o1 131 (by omega), o1 132 (by omega)]
            exact r2
        refine ⟨μ1, ν, zit (ckn μ1 a) f n (nI 0), fun g => ?_, fun g => ?_, ?_, ?_⟩
        · have h := ct_X7_paste (E := E) (μ := μ) (g := g) hN.1.1 h12 ha hb9 hf ht
          rw [← hn, ← hX, ← hY9] at h
          rw [if_neg (fun q => q hz), if_neg (fun q => q hok.1), if_neg (fun q => q (zB_0.mpr hok.2.1)), if_neg (zB_n.mpr hok.2.2), ← hμ1] at h
          exact h
        · have h := ct_X8_paste (E := E) (μ := μ1) (g := g) (nc := nc) (a := a) (b := b) (f := f) (t := t) (nf := 13) (by rw [o1 117 (by omega)]; exact hN.1.2.1) h12 ha hb9 hf ht (fun p hp j hj => (by
            have q := zlks_of h12 hp hB hK j hj
            unfold znx at q ⊢
            rw [o130, o134]
            exact q)) (fun p hp => (dst_c o130 o134 13 _).mpr (by
            have q := hst p hp
            unfold dl0 at q ⊢
            rw [o130]
            exact q)) (fun i hi => by rw [o130]; exact (hB i hi).1)
          rw [if_neg (fun q => q hz), if_neg (zB_n.mpr hdP), ed1, ed2, ← hn, eR] at h
          exact h
        · rw [c2.2 117 0 (fun q => by have := q.1; omega), zu_s]
        · have oc : ∀ k j, k < 117 → ν k j = μ1 k j := fun k j hk => by rw [c2.2 k j (fun q => by have := q.1; omega), zu_o (by omega)]
          have w130 : ∀ j, zu μ1 117 0 (nI 0) 130 j = μ 130 j := fun j => by rw [zu_o (by omega), o130]
          have w131 : ∀ j, zu μ1 117 0 (nI 0) 131 j = μ 131 j := fun j => by rw [zu_o (by omega), o1 131 (by omega)]
          have w132 : ∀ j, zu μ1 117 0 (nI 0) 132 j = μ 132 j := fun j => by rw [zu_o (by omega), o1 132 (by omega)]
          have w133 : ∀ j, zu μ1 117 0 (nI 0) 133 j = μ 133 j := fun j => by rw [zu_o (by omega), o1 133 (by omega)]
          refine zI_row (a := a) (P := fun p => f ≤ p ∧ p < f + n) ha (fun p hp => by have h1 := hp.1; have h2 := hp.2; omega) (fun k j q1 q2 q3 => ?_) (fun k j q1 q2 q3 q4 => ?_) hN hC hP hL hY hI' hB hF hK (fun p hp => ?_) (fun p hp => ?_) (rA_p (a := a) (b := b) (P := fun p => f ≤ p ∧ p < f + n) h12 ha hb9 hab hK hA (fun c hc p hp q => ?_) (fun p hp q => ?_))
          · rw [oc k j q1, c1.2 k j (fun q => q3 q)]
          · rw [c2.2 k j (fun q => q4 ⟨q.1, j - 24 * a, ⟨by omega, by omega⟩, by omega⟩)]
            by_cases e7 : k = 117
            · subst e7
              rw [zu_o2 (fun q => q3 ⟨rfl, q⟩), o1 117 (by omega)]
            · rw [zu_o e7, o1 k (by omega)]
          · have hp1 := hp.1
            have hp2 := hp.2
            rw [(c2.1 p hp1 hp2).1, w130]
            exact (hB _ (by omega)).1
          · have hp1 := hp.1
            have hp2 := hp.2
            have h9 := (hK b hb9).2.2 p (by omega)
            have k1 := zkn_iff (show b < 12 by omega) h9
            have hfp := hok.2.2 (p - f) (by omega)
            rw [show f + (p - f) = p by omega] at hfp
            obtain ⟨⟨a1, a2⟩, a3, a4⟩ := h9
            obtain ⟨b1, b2, b3, b4⟩ := c1.1 p hp1 hp2
            obtain ⟨d1, d2, d3, d4, d5⟩ := c2.1 p hp1 hp2
            rw [w130] at d1
            rw [w131] at d2
            rw [w132] at d3
            rw [w133] at d4
            have d6 : ν 134 (24 * a + p) = if μ 130 (24 * b + p) = 0 then -1 else nI b := d5.trans (zite (w130 _))
            unfold rQ
            rw [oc (36 + 7 * a) p (by omega), oc (34 + 7 * a) p (by omega), oc (35 + 7 * a) p (by omega), oc (37 + 7 * a) p (by omega), b1, b2, b3, b4, d1, d2, d3, d4, d6]
            refine ⟨⟨a1, a2⟩, ?_⟩
            rcases a4 with ⟨m0, ⟨m1, m2⟩, m3, m4⟩ | ⟨m0, m1, m2, m3⟩
            · have hk := k1.mpr m0
              rw [if_pos hk, if_pos hk, if_pos hk, if_neg m0]
              obtain ⟨w1, w2⟩ := hfp hk
              exact ⟨rfl, Or.inl ⟨m0, ⟨by rw [m1], by rw [m2]⟩, ⟨rb_m (rb_zin (by omega) w1) (by omega), rb_m (rb_zin (by omega) w2) (by omega)⟩, Or.inr ⟨b, hb9, rfl⟩⟩⟩
            · have hk : ¬ zkn μ b p := fun q => k1.mp q m0
              rw [if_neg hk, if_neg hk, if_neg hk, if_pos m0]
              exact ⟨rfl, Or.inr ⟨m0, rfl, rfl, rfl⟩⟩
          · rw [oc _ _ (by omega)]
            exact c1.2 _ _ (fun s => q ⟨by have := s.1; omega, s.2⟩)
          · have hp1 := q.1
            have hp2 := q.2
            rw [oc _ _ (by omega), (c1.1 p hp1 hp2).2.2.2]
            have k1 := zkn_iff (show b < 12 by omega) ((hK b hb9).2.2 p hp)
            by_cases hk : zkn μ b p
            · rw [if_pos hk]
              refine Or.inr ⟨rfl, fun s => hok.2.1 ⟨p - f, by omega, ?_⟩⟩
              rw [show f + (p - f) = p by omega]
              refine (zld_hit h12 hp hK ha hb9 hab).mpr ?_
              rw [dl0, if_neg (k1.mp hk)]
              exact s
            · rw [if_neg hk]
              exact Or.inl rfl
      · right; right; right
        have hd : ¬ (¬ μ 128 a < μ 128 b ∧ ∀ i, i < n → dpP μ a b 13 X Y (f + i)) := fun q => hok (hiff.mpr q)
        refine ⟨zu μ 117 0 (nI 3), nI 0, fun g => ?_, fun g => ?_, zu_s, zInv_t hI⟩
        · have h := ct_X7_paste (E := E) (μ := μ) (g := g) hN.1.1 h12 ha hb9 hf ht
          rw [← hn, ← hX, ← hY9] at h
          rw [if_neg (fun q => q hz)] at h
          by_cases j1 : μ (33 + 7 * b) 0 ≤ μ (33 + 7 * a) 0
          · rw [if_neg (fun q => q j1)] at h
            by_cases j2 : zlb μ nc (nI a) b f n
            · rw [if_pos (zB_n.mpr j2)] at h
              exact h
            · rw [if_neg (fun q => q (zB_0.mpr j2)), if_pos (zB_0.mpr (fun q => hok ⟨j1, j2, q⟩))] at h
              exact h
          · rw [if_pos j1] at h
            exact h
        · have h := ct_X8_paste (E := E) (μ := μ) (g := g) (nf := 13) hN.1.2.1 h12 ha hb9 hf ht (fun p hp => zlks_of h12 hp hB hK) hst (fun i hi => (hB i hi).1)
          rw [if_neg (fun q => q hz), ← eX, ← eY, ← hn, if_pos (zB_0.mpr hd)] at h
          exact h
    · right; right; left
      refine ⟨zu μ 117 0 (nI 2), nI 0, fun g => ?_, fun g => ?_, zu_s, zInv_t hI⟩
      · have h := ct_X7_paste (E := E) (μ := μ) (g := g) hN.1.1 h12 ha hb9 hf ht
        rw [if_pos hz] at h
        exact h
      · have h := ct_X8_paste (E := E) (μ := μ) (g := g) (nf := 13) hN.1.2.1 h12 ha hb9 hf ht (fun p hp => zlks_of h12 hp hB hK) hst (fun i hi => (hB i hi).1)
        rw [if_pos hz] at h
        exact h
  · right; left
    exact ⟨_, _, fun g => ctx_X7_paste hN.1.1 h12 hb, fun g => ctx_X8_paste hN.1.2.1 h12 hb, zu_s, zInv_t hI⟩
