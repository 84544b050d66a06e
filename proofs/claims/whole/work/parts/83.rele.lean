/-! paint -/
theorem za_paint {E : Nat × (Nat → Int32)} {μ : zMu} {x1 x2 x3 x4 x5 : Int32} (hI : zInv μ) : zAll zInv E μ x1 x2 x3 x4 x5 12 := by
  obtain ⟨nc, nr, np, ni, rf, rt, hN, hC, hP, hL, hY, hI', hB, hF, hK, hA⟩ := id hI
  have h12 := hN.1.2.2
  have h20 := hN.2.2.2.2.2
  by_cases hb : zrg nc x1 ∧ zrg ni x2
  · obtain ⟨c, hc, rfl⟩ := zrg_of hb.1 (by omega)
    obtain ⟨i, hi, rfl⟩ := zrg_of hb.2 (by omega)
    left
    obtain ⟨f1, f2, f3⟩ := hF c (by omega) i (by omega)
    refine ⟨zu μ (39 + 7 * c) i (nI 0), zu (zu (zu μ (39 + 7 * c) i (nI 0)) 117 0 (nI 0)) 140 (20 * c + i) (nI 0), μ (39 + 7 * c) i, fun g => ct_X7_paint hN.1.1 h12 hN.2.2.2.1 h20 hc hi (by rw [f1]; exact f2), fun g => ?_, ?_, ?_⟩
    · have e1 : zu μ (39 + 7 * c) i (nI 0) 140 = μ 140 := zu_r (by omega)
      have h := ct_X8_paint (E := E) (μ := zu μ (39 + 7 * c) i (nI 0)) (g := g) (nc := nc) (ni := ni) (by rw [zu_o (by omega)]; exact hN.1.2.1) h12 (by rw [zu_o (by omega)]; exact hN.2.2.2.2.1) h20 hc hi (by rw [e1]; exact f2)
      rw [e1, ← f1] at h
      exact h
    · exact (zu_o (by decide)).trans zu_s
    · have o : ∀ k, k ≠ 39 + 7 * c → k ≠ 117 → k ≠ 140 → zu (zu (zu μ (39 + 7 * c) i (nI 0)) 117 0 (nI 0)) 140 (20 * c + i) (nI 0) k = μ k := fun k h1 h2 h3 => by rw [zu_r h3, zu_r h2, zu_r h1]
      refine ⟨nc, nr, np, ni, rf, rt, kN (fun k hk j hj => ?_) hN, kC (fun k hk => o k (by omega) (by omega) (by omega)) hC, kP (fun k hk => o k (by omega) (by omega) (by omega)) hP, kL (fun k hk => o k (by omega) (by omega) (by omega)) hL, kY (fun k hk => o k (by omega) (by omega) (by omega)) hY, kI (fun k hk => o k (by omega) (by omega) (by omega)) hI', kB (o 130 (by omega) (by omega) (by omega)) hB, ?_, ?_, ?_⟩
      · rw [zu_o (by omega)]
        by_cases h9 : k = 117
        · rw [h9, zu_o2 (by omega), zu_o (by omega)]
        · rw [zu_o h9, zu_o (by omega)]
      · intro c2 hc2 i2 hi2
        obtain ⟨g1, g2, g3⟩ := hF c2 hc2 i2 hi2
        by_cases e : c2 = c ∧ i2 = i
        · obtain ⟨rfl, rfl⟩ := e
          rw [zu_s, zu_o (by omega), zu_o (by omega), zu_s]
          exact ⟨rfl, Or.inl rfl, fun _ => rfl⟩
        · have e140 : zu (zu (zu μ (39 + 7 * c) i (nI 0)) 117 0 (nI 0)) 140 (20 * c + i) (nI 0) 140 (20 * c2 + i2) = μ 140 (20 * c2 + i2) := by
            rw [zu_o2 (by omega), zu_o (by omega), zu_o (by omega)]
          have e39 : zu (zu (zu μ (39 + 7 * c) i (nI 0)) 117 0 (nI 0)) 140 (20 * c + i) (nI 0) (39 + 7 * c2) i2 = μ (39 + 7 * c2) i2 := by
            rw [zu_o (by omega), zu_o (by omega)]
            by_cases e2 : c2 = c
            · subst e2
              rw [zu_o2 (fun h => e ⟨rfl, h⟩)]
            · rw [zu_o (by omega)]
          rw [e140, e39]
          exact ⟨g1, g2, g3⟩
      · intro c2 hc2
        obtain ⟨a1, a2, a3⟩ := hK c2 hc2
        refine ⟨?_, fun b hb => ?_, fun r hr => ?_⟩
        · rw [o (33 + 7 * c2) (by omega) (by omega) (by omega), o 128 (by omega) (by omega) (by omega)]
          exact a1
        · rw [o (38 + 7 * c2) (by omega) (by omega) (by omega), o 129 (by omega) (by omega) (by omega)]
          exact a2 b hb
        · have h9 := a3 r hr
          unfold rQ at h9 ⊢
          rw [o (36 + 7 * c2) (by omega) (by omega) (by omega), o 133 (by omega) (by omega) (by omega), o (37 + 7 * c2) (by omega) (by omega) (by omega), o (34 + 7 * c2) (by omega) (by omega) (by omega), o (35 + 7 * c2) (by omega) (by omega) (by omega), o 134 (by omega) (by omega) (by omega), o 130 (by omega) (by omega) (by omega), o 131 (by omega) (by omega) (by omega), o 132 (by omega) (by omega) (by omega)]
          exact h9
      · intro r hr
        obtain ⟨f, hf⟩ := hA r hr
        refine ⟨f, fun c2 hc2 j hj e => hf c2 hc2 j hj ?_⟩
        rw [o (37 + 7 * c2) (by omega) (by omega) (by omega)] at e
        exact e
  · right
    exact ⟨_, _, fun g => ctx_X7_paint hN.1.1 h12 hN.2.2.2.1 h20 hb, fun g => ctx_X8_paint hN.1.2.1 h12 hN.2.2.2.2.1 h20 hb, zu_s, zInv_t hI⟩
