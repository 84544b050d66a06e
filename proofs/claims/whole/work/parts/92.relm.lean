/-! copy -/
theorem zdm (x way h : Int32) : zdraw x way h = zmade x way h := rfl
theorem rb_made {n m : Nat} {x way h : Int32} (hx : rb n x) (hh : rb 9 h) (hnm : n + 9 ≤ m) (hm : m < 1000000) : rb m (zmade x way h) := by
  unfold zmade
  by_cases h1 : way = nI 1
  · rw [if_pos h1]
    have r5 : rb 5 (nI 5) := by unfold rb; rw [nI_toInt (by omega)]; omega
    exact rb_mul (rb_div (n := n / 5) hx (by omega) (Nat.le_refl _)) r5 (by omega) (by omega)
  · rw [if_neg h1]
    by_cases h2 : way = nI 2
    · rw [if_pos h2]
      exact rb_add hx hh hnm (by omega)
    · rw [if_neg h2]
      exact rb_m hx (by omega)
theorem zrg3 {way : Int32} : (¬ way < 0 ∧ ¬ nI 2 < way) ↔ zrg 3 way := by
  constructor
  · rintro ⟨h1, h2⟩
    obtain ⟨j, hj, rfl⟩ := nI_of h1
    have h3 : ¬ 2 < j := fun q => h2 ((nI_ltI (by omega) hj).mpr q)
    exact ⟨h1, (nI_ltI hj (by omega)).mpr (by omega)⟩
  · rintro ⟨h1, h2⟩
    obtain ⟨j, hj, rfl⟩ := nI_of h1
    have h3 := (nI_ltI hj (by omega)).mp h2
    exact ⟨h1, fun q => by have := (nI_ltI (by omega) hj).mp q; omega⟩
theorem znm_1 {v : Int32} (h : znm v) : ∃ j, 1 ≤ j ∧ j < 100 ∧ v = nI j := by
  obtain ⟨j, hj, rfl⟩ := znm_of h
  refine ⟨j, ?_, hj, rfl⟩
  have h1 := h.1
  have h2 : ¬ j < 1 := fun q => h1 ((nI_ltI (by omega) (by omega)).mpr q)
  omega
theorem zBi {μ : zMu} {nc ni : Nat} (hF : rF μ nc ni) : ∀ i, i < 240 → μ 140 i = 0 ∨ μ 140 i = 1 := fun i hi => by
  have h := (hF (i / 20) (by omega) (i % 20) (by omega)).2.1
  rw [show 20 * (i / 20) + i % 20 = i by omega] at h
  exact h
theorem za_copy {E : Nat × (Nat → Int32)} {μ : zMu} {x1 x2 x3 x4 x5 : Int32} (hI : zInv μ) : zAll zInv E μ x1 x2 x3 x4 x5 6 := by
  obtain ⟨nc, nr, np, ni, rf, rt, hN, hC, hP, hL, hY, hI', hB, hF, hK, hA⟩ := id hI
  have h12 := hN.1.2.2
  have h20 := hN.2.2.2.2.2
  by_cases hb : zrg nc x1 ∧ zrg 4 x2
  · obtain ⟨c, hc, rfl⟩ := zrg_of hb.1 (by omega)
    obtain ⟨k, hk, rfl⟩ := zrg_of hb.2 (by omega)
    obtain ⟨kY1, kY2, kY3⟩ := hY k hk
    obtain ⟨kK1, kK2, kK3⟩ := hK c hc
    have hnm0 : ∀ i, ∃ j, i < 24 → 1 ≤ j ∧ j < 100 ∧ μ (36 + 7 * c) i = nI j := fun i => by
      by_cases hi : i < 24
      · obtain ⟨j, hj⟩ := znm_1 (kK3 i hi).1.2
        exact ⟨j, fun _ => hj⟩
      · exact ⟨0, fun q => absurd q hi⟩
    obtain ⟨nm, hnm⟩ := Classical.axiomOfChoice hnm0
    have hnm7 : ∀ i, i < 24 → μ (36 + 7 * c) i = nI (nm i) ∧ 1 ≤ nm i ∧ nm i < 100 := fun i hi => ⟨(hnm i hi).2.2, (hnm i hi).1, (hnm i hi).2.1⟩
    have hnm8 : ∀ i, i < 24 → μ 133 (24 * c + i) = nI (nm i) ∧ nm i < 100 := fun i hi => ⟨(kK3 i hi).1.1.symm.trans (hnm i hi).2.2, (hnm i hi).2.1⟩
    have hB0 : ∀ i, i < 20 → μ (39 + 7 * c) i = 0 ∨ μ (39 + 7 * c) i = 1 := fun i hi => by
      obtain ⟨f1, f2, -⟩ := hF c (by omega) i hi
      rw [f1]
      exact f2
    have hcond : (¬ x3 < 0 ∧ ¬ nI 2 < x3 ∧ zyr x4 ∧ μ (33 + 7 * c) 0 ≤ x4) ↔ (zrg 3 x3 ∧ zyr x4 ∧ ¬ x4 < μ 128 c) := by
      constructor
      · rintro ⟨q1, q2, q3, q4⟩
        exact ⟨zrg3.mp ⟨q1, q2⟩, q3, fun q => absurd q4 (by rw [kK1]; exact Int32.not_le.mpr q)⟩
      · rintro ⟨q1, q2, q3⟩
        exact ⟨(zrg3.mpr q1).1, (zrg3.mpr q1).2, q2, by rw [kK1]; exact Int32.not_lt.mp q3⟩
    by_cases hz : ¬ x3 < 0 ∧ ¬ nI 2 < x3 ∧ zyr x4 ∧ μ (33 + 7 * c) 0 ≤ x4
    · by_cases hr : nc < 12
      · left
        have hcd : c ≠ nc := by omega
        have c1 := ccopy_f (nm := nm) (way := x3) (y := x4) hcd hk μ
        obtain ⟨μ1, hμ1⟩ : ∃ μ1, μ1 = ccopy c nc k nm x3 x4 μ := ⟨_, rfl⟩
        rw [← hμ1] at c1
        obtain ⟨c1a, c1b, c1c, c1d, c1e, c1f⟩ := c1
        have o1 : ∀ k, 116 < k → μ1 k = μ k := fun k hk => funext fun j => c1f k j (fun q => by have := q.1; omega) (by omega)
        have c2 := dcopy_f (q := k) (nm := nm) (way := x3) (y := x4) hcd h20 (zu μ1 117 0 (nI 0))
        obtain ⟨ν, hν⟩ : ∃ ν, ν = dcopy c nc k nm x3 x4 ni (zu μ1 117 0 (nI 0)) := ⟨_, rfl⟩
        rw [← hν] at c2
        obtain ⟨c2a, c2b, c2c, c2d, c2e, c2f⟩ := c2
        have w : ∀ k j, 117 < k → zu μ1 117 0 (nI 0) k j = μ k j := fun k j hk => by rw [zu_o (by omega), o1 k (by omega)]
        have oc : ∀ k j, k < 117 → ν k j = μ1 k j := fun k j hk => by rw [c2f k j (fun q => by have := q.1; omega) (fun q => by have := q.1; omega) (fun q => by have := q.1; omega) (fun q => by have := q.1; omega) (fun q => by have := q.1; omega), zu_o (by omega)]
        refine ⟨μ1, ν, nI nc, fun g => ?_, fun g => ?_, ?_, ?_⟩
        · have h := ct_X7_copy (E := E) (μ := μ) (g := g) hN.1.1 h12 hc hk (way := x3) (y := x4) hnm7 hB0
          rw [if_neg (fun q => q hz), if_neg (fun q => q hr), ← hμ1] at h
          exact h
        · have h := ct_X8_copy (E := E) (μ := μ1) (g := g) (nc := nc) (ni := ni) (by rw [o1 117 (by omega)]; exact hN.1.2.1) h12 (by rw [o1 117 (by omega)]; exact hN.2.2.2.2.1) h20 hc hk (way := x3) (y := x4) (nm := nm) (fun i hi => by rw [o1 133 (by omega)]; exact hnm8 i hi) (fun i hi => by rw [o1 130 (by omega)]; exact (hB i hi).1) (fun i hi => by rw [o1 140 (by omega)]; exact zBi hF i hi)
          rw [o1 128 (by omega), if_neg (fun q => q (hcond.mp hz)), if_neg (fun q => q hr), ← hν] at h
          exact h
        · rw [c2f 117 0 (fun q => by have := q.2; omega) (fun q => by have := q.1; omega) (fun q => by have := q.1; omega) (fun q => by have := q.1; omega) (fun q => by have := q.1; omega), zu_s]
        · refine zI_new hr (fun k j q1 q2 q3 q4 => ?_) (fun k j q1 q2 q3 q4 q5 q6 q7 => ?_) ?_ c2e hN hC hP hL hY hI' hB hF hK hA ?_ (fun b hb => ?_) (fun i hi => ?_) (fun p hp => ?_) (fun p hp => ?_) (fun p hp => ?_)
          · rw [oc k j q1, c1f k j q3 q4]
          · rw [c2f k j (fun s => q3 ⟨s.1, Or.inr s.2⟩) q4 q5 q6 (fun s => q7 ⟨s.1, s.2.1, by omega⟩)]
            by_cases e7 : k = 117
            · subst e7
              rw [zu_o2 (fun q => q3 ⟨rfl, Or.inl q⟩), o1 117 (by omega)]
            · exact w k j (by omega)
          · rw [oc 1 7 (by omega)]; exact c1e
          · rw [oc _ _ (by omega), c1b, c2b]
          · rw [oc _ _ (by omega), c1c b hb, c2c b hb, w 129 _ (by omega)]
            exact kK2 b hb
          · rw [oc _ _ (by omega), c1d i hi]
            obtain ⟨f1, f2, f3⟩ := hF c (by omega) i hi
            by_cases e : i < ni
            · rw [c2d i e, w 140 _ (by omega), f1]
              exact ⟨rfl, f2, fun q => f3 (Or.inr q)⟩
            · have f4 := (hF nc hr i hi).2.2 (Or.inl (Nat.le_refl _))
              rw [c2f 140 _ (fun q => by have := q.1; omega) (fun q => by have := q.1; omega) (fun q => by have := q.1; omega) (fun q => by have := q.1; omega) (fun q => by have := q.2; omega), w 140 _ (by omega), f1, f4, f3 (Or.inr (by omega))]
              exact ⟨rfl, Or.inl rfl, fun _ => rfl⟩
          · rw [(c2a p hp).1, w 130 _ (by omega)]
            exact (hB _ (by omega)).1
          · have h9 := kK3 p hp
            have k1 := zkn_iff (show c < 12 by omega) h9
            obtain ⟨⟨a1, a2⟩, a3, a4⟩ := h9
            obtain ⟨b1, b2, b3, b4⟩ := c1a p hp
            obtain ⟨d1, d2, d3, d4, d5⟩ := c2a p hp
            obtain ⟨y1, y2⟩ := kY3 (nm p) (hnm p hp).2.1
            have d6 : ν 134 (24 * nc + p) = if μ 130 (24 * c + p) = 0 then -1 else nI c := d5.trans (zite (w 130 _ (by omega)))
            rw [w 130 _ (by omega)] at d1
            rw [w 131 _ (by omega), w 135 _ (by omega)] at d2
            rw [w 132 _ (by omega), w 135 _ (by omega)] at d3
            rw [w 136 _ (by omega)] at d4
            unfold rQ
            rw [oc (36 + 7 * nc) p (by omega), oc (34 + 7 * nc) p (by omega), oc (35 + 7 * nc) p (by omega), oc (37 + 7 * nc) p (by omega), b1, b2, b3, b4, d1, d2, d3, d4, d6, y1, kY1, zdm, zdm]
            refine ⟨⟨rfl, y2 (hnm p hp).1⟩, ?_⟩
            have r9 := rb_zin (by omega) kY2
            rcases a4 with ⟨m0, ⟨m1, m2⟩, ⟨m3, m4⟩, m5⟩ | ⟨m0, m1, m2, m3⟩
            · have hk := k1.mpr m0
              rw [if_pos hk, if_pos hk, if_pos hk, if_neg m0]
              exact ⟨rfl, Or.inl ⟨m0, ⟨by rw [m1], by rw [m2]⟩, ⟨rb_made m3 r9 (by omega) (by omega), rb_made m4 (rb_neg r9 (by omega)) (by omega) (by omega)⟩, Or.inr ⟨c, by omega, rfl⟩⟩⟩
            · have hk : ¬ zkn μ c p := fun q => k1.mp q m0
              rw [if_neg hk, if_neg hk, if_neg hk, if_pos m0]
              exact ⟨rfl, Or.inr ⟨m0, rfl, rfl, rfl⟩⟩
          · rw [oc _ _ (by omega), (c1a p hp).2.2.2]
            by_cases hk : zkn μ c p
            · rw [if_pos hk]; exact Or.inr ⟨c, hc, rfl⟩
            · rw [if_neg hk]; exact Or.inl rfl
      · right; right; right
        refine ⟨zu μ 117 0 (nI 3), nI 0, fun g => ?_, fun g => ?_, zu_s, zInv_t hI⟩
        · have h := ct_X7_copy (E := E) (μ := μ) (g := g) hN.1.1 h12 hc hk (way := x3) (y := x4) hnm7 hB0
          rw [if_neg (fun q => q hz), if_pos hr] at h
          exact h
        · have h := ct_X8_copy (E := E) (μ := μ) (g := g) hN.1.2.1 h12 hN.2.2.2.2.1 h20 hc hk (way := x3) (y := x4) hnm8 (fun i hi => (hB i hi).1) (zBi hF)
          rw [if_neg (fun q => q (hcond.mp hz)), if_pos hr] at h
          exact h
    · right; right; left
      have hz2 : ¬ (zrg 3 x3 ∧ zyr x4 ∧ ¬ x4 < μ 128 c) := fun q => hz (hcond.mpr q)
      refine ⟨zu μ 117 0 (nI 2), nI 0, fun g => ?_, fun g => ?_, zu_s, zInv_t hI⟩
      · have h := ct_X7_copy (E := E) (μ := μ) (g := g) hN.1.1 h12 hc hk (way := x3) (y := x4) hnm7 hB0
        rw [if_pos hz] at h
        exact h
      · have h := ct_X8_copy (E := E) (μ := μ) (g := g) hN.1.2.1 h12 hN.2.2.2.2.1 h20 hc hk (way := x3) (y := x4) hnm8 (fun i hi => (hB i hi).1) (zBi hF)
        rw [if_pos hz2] at h
        exact h
  · right; left
    exact ⟨_, _, fun g => ctx_X7_copy hN.1.1 h12 hb, fun g => ctx_X8_copy hN.1.2.1 h12 hb, zu_s, zInv_t hI⟩
