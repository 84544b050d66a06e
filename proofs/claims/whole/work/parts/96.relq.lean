/-! chart -/
theorem zpos1 {v : Int32} (h : ¬ v < nI 1) : ∃ j, 1 ≤ j ∧ j < 2147483648 ∧ v = nI j := by
  have h0 : ¬ v < 0 := fun q => h (by
    rw [Int32.lt_iff_toInt_lt] at q ⊢
    rw [nI_toInt (by omega)]
    have h3 : (0 : Int32).toInt = 0 := rfl
    omega)
  obtain ⟨j, hj, rfl⟩ := nI_nonneg h0
  refine ⟨j, ?_, hj, rfl⟩
  have h2 : ¬ j < 1 := fun q => h ((nI_ltI (by omega) (by omega)).mpr q)
  omega
theorem chart_key {μ M : zMu} {nc nr r : Nat} {rf rt : Nat → Nat} {y : Int32} (hr : r ≤ nr) (h60 : nr ≤ 60) (hC : rC μ) (hL : rL μ nr rf rt) (hM : ∀ k, 117 < k → M k = μ k) :
    dws rf rt nc r 24 (dch2 nc (zu M 117 0 (nI 0))) ∧ RR nc 41060 (zit (clay rf rt nc r) 0 24 (nI 1, cch1 nc y μ)).2 (dwh rf rt nc r 24 (dch2 nc (zu M 117 0 (nI 0)))) ∧ RS nc (zit (clay rf rt nc r) 0 24 (nI 1, cch1 nc y μ)).2 := by
  obtain ⟨⟨s1, s2⟩, s3, s4, s5, s6, s7⟩ := cch1_f (c := nc) (y := y) μ
  obtain ⟨t1, ⟨t2, t3⟩, t4, t5⟩ := dch2_f (c := nc) (zu M 117 0 (nI 0))
  have w : ∀ k j, 117 < k → zu M 117 0 (nI 0) k j = μ k j := fun k j h => by rw [zu_o (by omega), hM k h]
  have hz : dch2 nc (zu M 117 0 (nI 0)) 130 (24 * nc + 0) = nI 1 := by rw [(t1 0 (by omega)).1, if_pos rfl]
  have n1 : ¬ nI 1 = 0 := by decide
  refine rounds_eq (by omega) 24 0 (cch1 nc y μ) (dch2 nc (zu M 117 0 (nI 0))) (by omega) (fun p hp => ?_) (fun p hp => (s4 p hp).2) (fun i hi => ?_) ?_
  · by_cases e : p = 0
    · subst e
      left
      obtain ⟨⟨c1, c2, -, -⟩, c3, c4, -⟩ := hC 0 (by omega)
      rw [hz, s1, s2, t2, t3, w 118 0 (by omega), w 119 0 (by omega)]
      exact ⟨n1, ⟨c1, c2⟩, rb_zin (by omega) c3, rb_zin (by omega) c4⟩
    · right
      obtain ⟨a1, a2⟩ := s3 p hp (by omega)
      rw [(t1 p hp).1, if_neg e, a1, a2]
      exact ⟨nI_0, rfl, rfl⟩
  · obtain ⟨⟨-, -, l1, l2⟩, -, ⟨l3, l4⟩, l5, l6⟩ := hL i (by omega)
    rw [s7 13 i (by omega), s7 14 i (by omega), t5 126 i (fun q => by have := q.1; omega) (fun q => by have := q.1; omega), t5 127 i (fun q => by have := q.1; omega) (fun q => by have := q.1; omega), w 126 i (by omega), w 127 i (by omega)]
    exact ⟨⟨l1, l2⟩, ⟨l3, l4⟩, l5, l6⟩
  · have h := zcnt_lt (P := fun _ => False) (Q := fun p => ¬ dch2 nc (zu M 117 0 (nI 0)) 130 (24 * nc + p) = 0) (k := 0) 24 (fun _ _ q => q.elim) (by omega) id (fun q => n1 (hz.symm.trans q))
    omega
theorem za_chart {E : Nat × (Nat → Int32)} {μ : zMu} {x1 x2 x3 x4 x5 : Int32} (hI : zInv μ) : zAll zInv E μ x1 x2 x3 x4 x5 3 := by
  obtain ⟨nc, nr, np, ni, rf, rt, hN, hC, hP, hL, hY, hI', hB, hF, hK, hA⟩ := id hI
  have h12 := hN.1.2.2
  have h60 := hN.2.1.2.2
  by_cases hb : ¬ x1 < nI 1 ∧ ¬ nI nr < x1
  · obtain ⟨r, hr1, hr3, rfl⟩ := zpos1 hb.1
    have hr2 : r ≤ nr := by
      have h9 : ¬ nr < r := fun q => hb.2 ((nI_ltI (by omega) (by omega)).mpr q)
      omega
    have hft : zft μ nr rf rt := fun i hi => (hL i hi).1
    have hft8 : ∀ M : zMu, M 124 = μ 124 → M 125 = μ 125 → ∀ i, i < r → M 124 i = nI (rf i) ∧ M 125 i = nI (rt i) ∧ rf i < 24 ∧ rt i < 24 := fun M e1 e2 i hi => by
      obtain ⟨⟨-, -, l1, l2⟩, ⟨l3, l4⟩, -⟩ := hL i (by omega)
      rw [e1, e2]
      exact ⟨l3, l4, l1, l2⟩
    have key0 := chart_key (nc := nc) (y := x2) hr2 h60 hC hL (M := μ) (fun _ _ => rfl)
    by_cases hz : zyr x2
    · by_cases hn : nc < 12
      · left
        obtain ⟨μ1, hμ1⟩ : ∃ μ1, μ1 = cchart rf rt nc r x2 μ := ⟨_, rfl⟩
        obtain ⟨σ, hσ⟩ : ∃ σ, σ = (zit (clay rf rt nc r) 0 24 (nI 1, cch1 nc x2 μ)).2 := ⟨_, rfl⟩
        have e1 : μ1 = zu σ 1 7 (nI (nc + 1)) := by rw [hμ1, hσ, cchart]
        have oσ : ∀ k, k ≠ 16 ∧ k ≠ 17 ∧ k ≠ 18 → k ≠ 34 + 7 * nc ∧ k ≠ 35 + 7 * nc ∧ k ≠ 37 + 7 * nc → σ k = cch1 nc x2 μ k := fun k h1 h2 => by rw [hσ, clay_k h1 h2]
        obtain ⟨-, -, s4, s5, s6, s7⟩ := cch1_f (c := nc) (y := x2) μ
        have o1 : ∀ k, 116 < k → μ1 k = μ k := fun k hk => by
          rw [e1, zu_r (by omega), oσ k (by omega) (by omega)]
          exact funext fun j => s7 k j (by omega)
        have p1 : ∀ k j, ¬ (k = 1 ∧ j = 7) → μ1 k j = σ k j := fun k j h => by
          rw [e1]
          by_cases e : k = 1
          · exact zu_o2 (fun s => h ⟨e, s⟩)
          · exact zu_o e
        obtain ⟨key1, key2, key3⟩ := chart_key (nc := nc) (y := x2) hr2 h60 hC hL (M := μ1) (fun k hk => o1 k (by omega))
        obtain ⟨τ0, hτ0⟩ : ∃ τ0, τ0 = dch2 nc (zu μ1 117 0 (nI 0)) := ⟨_, rfl⟩
        have t := dch2_f (c := nc) (zu μ1 117 0 (nI 0))
        rw [← hτ0] at t
        obtain ⟨t1, -, t4, t5⟩ := t
        obtain ⟨τ, hτ⟩ : ∃ τ, τ = dwh rf rt nc r 24 τ0 := ⟨_, rfl⟩
        rw [← hσ, ← hτ0, ← hτ] at key2
        rw [← hσ] at key3
        have oτ : ∀ k, (k ≠ 130 ∧ k ≠ 131 ∧ k ≠ 132) ∧ k ≠ 141 ∧ k ≠ 142 ∧ k ≠ 143 ∧ k ≠ 144 → τ k = τ0 k := fun k h => by rw [hτ]; exact dwh_o h 24 τ0
        have w : ∀ k j, 117 < k → zu μ1 117 0 (nI 0) k j = μ k j := fun k j h => by rw [zu_o (by omega), o1 k (by omega)]
        obtain ⟨ν, hν⟩ : ∃ ν, ν = zu (zu τ 128 nc x2) 117 13 (nI (nc + 1)) := ⟨_, rfl⟩
        have oν : ∀ k j, k ≠ 117 → k ≠ 128 → ν k j = τ k j := fun k j h1 h2 => by rw [hν, zu_o h1, zu_o h2]
        have oc : ∀ k j, k < 117 → ν k j = μ1 k j := fun k j hk => by
          rw [oν k j (by omega) (by omega), oτ k (by omega), t5 k j (fun q => by have := q.1; omega) (fun q => by have := q.1; omega), zu_o (by omega)]
        have on : ∀ k j, ¬ (k = 1 ∧ j = 7) → k < 117 → (k < 15 ∨ 18 < k) → (k < 34 + 7 * nc ∨ 37 + 7 * nc < k ∨ k = 36 + 7 * nc) → ν k j = cch1 nc x2 μ k j := fun k j h1 h2 h3 h4 => by
          rw [oc k j h2, p1 k j h1, oσ k (by omega) (by omega)]
        refine ⟨μ1, ν, nI nc, fun g => ?_, fun g => ?_, ?_, ?_⟩
        · have h := ct_X7_chart (E := E) (μ := μ) (g := g) hN.1.1 h12 hN.2.1.1 h60 hr1 hr2 (y := x2) hft
          rw [if_neg (fun q => q hz), if_neg (fun q => q hn), ← hμ1] at h
          exact h
        · have h := ct_X8_chart (E := E) (μ := μ1) (g := g) (nc := nc) (nr := nr) (r := r) (q := 24) (rf := rf) (rt := rt) (by rw [o1 117 (by omega)]; exact hN.1.2.1) h12 (by rw [o1 117 (by omega)]; exact hN.2.1.2.1) h60 hr1 hr2 (y := x2) (hft8 μ1 (o1 124 (by omega)) (o1 125 (by omega))) (fun i hi => by rw [o1 130 (by omega)]; exact (hB i hi).1) (fun _ => key1)
          rw [if_neg (fun q => q hz), if_neg (fun q => q hn), ← hτ0, ← hτ, ← hν] at h
          exact h
        · rw [hν, zu_o2 (by omega), zu_o (by omega), oτ 117 (by omega), t5 117 0 (fun q => by have := q.1; omega) (fun q => by have := q.1; omega), zu_s]
        · refine zI_new hn (fun k j q1 q2 q3 q4 => ?_) (fun k j q1 q2 q3 q4 q5 q6 q7 => ?_) ?_ ?_ hN hC hP hL hY hI' hB hF hK hA ?_ (fun b hb => ?_) (fun i hi => ?_) (fun p hp => ?_) (fun p hp => ?_) (fun p hp => Or.inl ?_)
          · rw [on k j q3 q1 q2 (by omega), s7 k j (by omega)]
          · by_cases e7 : k = 117
            · subst e7
              rw [hν, zu_o2 (fun s => q3 ⟨rfl, Or.inr s⟩), zu_o (by omega), oτ 117 (by omega), t5 117 j (fun q => by have := q.1; omega) (fun q => by have := q.1; omega), zu_o2 (fun s => q3 ⟨rfl, Or.inl s⟩), o1 117 (by omega)]
            · have e8 : ν k j = τ k j := by
                rw [hν, zu_o e7]
                by_cases e : k = 128
                · exact zu_o2 (fun s => q4 ⟨e, s⟩)
                · exact zu_o e
              have e9 : τ k j = τ0 k j := by
                rw [hτ]
                exact dwh_p q2 (fun s => q6 ⟨by have := s.1; omega, s.2⟩) 24 τ0
              rw [e8, e9, t5 k j q5 q6, w k j (by omega)]
          · rw [oc 1 7 (by omega), e1, zu_s]
          · rw [hν, zu_s]
          · rw [on _ _ (fun s => by have := s.1; omega) (by omega) (by omega) (by omega), s5, hν, zu_o (by omega), zu_s]
          · rw [on _ _ (fun s => by have := s.1; omega) (by omega) (by omega) (by omega), s6 b hb, oν 129 _ (by omega) (by omega), oτ 129 (by omega), t4 b hb]
          · obtain ⟨f1, f2, f3⟩ := hF nc hn i hi
            rw [on _ _ (fun s => by have := s.1; omega) (by omega) (by omega) (by omega), s7 _ _ (by omega), oν 140 _ (by omega) (by omega), oτ 140 (by omega), t5 140 _ (fun q => by have := q.1; omega) (fun q => by have := q.1; omega), w 140 _ (by omega)]
            exact ⟨f1, f2, fun q => f3 (Or.inr q)⟩
          · rw [oν 130 _ (by omega) (by omega), hτ]
            refine dwh_b hn 24 τ0 ?_ _ (by omega)
            rw [hτ0]
            exact dch2_B hn (fun i hi => by rw [w 130 _ (by omega)]; exact (hB i hi).1)
          · obtain ⟨⟨-, -, c3, -⟩, -, -, c4⟩ := hC p hp
            unfold rQ
            rw [on (36 + 7 * nc) p (fun s => by have := s.1; omega) (by omega) (by omega) (by omega), (s4 p hp).1, oν 133 _ (by omega) (by omega), oτ 133 (by omega), (t1 p hp).2.1, w 120 _ (by omega), oc (37 + 7 * nc) p (by omega), p1 _ _ (fun s => by have := s.1; omega), key3 p hp, oν 134 _ (by omega) (by omega), oτ 134 (by omega), (t1 p hp).2.2, oc (34 + 7 * nc) p (by omega), p1 _ _ (fun s => by have := s.1; omega), oc (35 + 7 * nc) p (by omega), p1 _ _ (fun s => by have := s.1; omega), oν 130 _ (by omega) (by omega), oν 131 _ (by omega) (by omega), oν 132 _ (by omega) (by omega)]
            refine ⟨⟨c3, c4⟩, rfl, ?_⟩
            rcases key2 p hp with ⟨a0, a1, a2, a3⟩ | ⟨a0, a1, a2⟩
            · exact Or.inl ⟨a0, a1, ⟨rb_m a2 (by omega), rb_m a3 (by omega)⟩, Or.inl rfl⟩
            · exact Or.inr ⟨a0, a1, a2, rfl⟩
          · rw [oc _ _ (by omega), p1 _ _ (fun s => by have := s.1; omega), key3 p hp]
      · right; right
        refine ⟨zu μ 117 0 (nI 2), nI 0, fun g => ?_, fun g => ?_, zu_s, zInv_t hI⟩
        · have h := ct_X7_chart (E := E) (μ := μ) (g := g) hN.1.1 h12 hN.2.1.1 h60 hr1 hr2 (y := x2) hft
          rw [if_neg (fun q => q hz), if_pos hn] at h
          exact h
        · have h := ct_X8_chart (E := E) (μ := μ) (g := g) (q := 24) (rf := rf) (rt := rt) hN.1.2.1 h12 hN.2.1.2.1 h60 hr1 hr2 (y := x2) (hft8 μ rfl rfl) (fun i hi => (hB i hi).1) (fun _ => key0.1)
          rw [if_neg (fun q => q hz), if_pos hn] at h
          exact h
    · right; left
      refine ⟨zu μ 117 0 (nI 1), nI 0, fun g => ?_, fun g => ?_, zu_s, zInv_t hI⟩
      · have h := ct_X7_chart (E := E) (μ := μ) (g := g) hN.1.1 h12 hN.2.1.1 h60 hr1 hr2 (y := x2) hft
        rw [if_pos hz] at h
        exact h
      · have h := ct_X8_chart (E := E) (μ := μ) (g := g) (q := 24) (rf := rf) (rt := rt) hN.1.2.1 h12 hN.2.1.2.1 h60 hr1 hr2 (y := x2) (hft8 μ rfl rfl) (fun i hi => (hB i hi).1) (fun _ => key0.1)
        rw [if_pos hz] at h
        exact h
  · right; left
    exact ⟨_, _, fun g => ctx_X7_chart hN.2.1.1 h60 hb, fun g => ctx_X8_chart hN.2.1.2.1 h60 hb, zu_s, zInv_t hI⟩
/-! all calls -/
theorem za_all {E : Nat × (Nat → Int32)} {μ : zMu} {x1 x2 x3 x4 x5 : Int32} (hI : zInv μ) {w : Nat} (hw : w < 22) : zAll zInv E μ x1 x2 x3 x4 x5 w := by
  match w, hw with
  | 0, _ => exact za_coast hI
  | 1, _ => exact za_pilot hI
  | 2, _ => exact za_report hI
  | 3, _ => exact za_chart hI
  | 4, _ => exact za_hand hI
  | 5, _ => exact za_reads hI
  | 6, _ => exact za_copy hI
  | 7, _ => exact za_paste hI
  | 8, _ => exact za_island hI
  | 9, _ => exact za_exchange hI
  | 10, _ => exact za_shrink hI
  | 11, _ => exact za_lose hI
  | 12, _ => exact za_paint hI
  | 13, _ => exact za_told1 hI
  | 14, _ => exact za_at hI
  | 15, _ => exact za_chain hI
  | 16, _ => exact za_of hI
  | 17, _ => exact za_ofIsland hI
  | 18, _ => exact za_fit hI
  | 19, _ => exact za_shared hI
  | 20, _ => exact za_kin hI
  | 21, _ => exact za_date hI
  | n + 22, h => exact absurd h (by omega)
