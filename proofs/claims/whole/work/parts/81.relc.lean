/-! exchange -/
theorem za_exchange {E : Nat × (Nat → Int32)} {μ : zMu} {x1 x2 x3 x4 x5 : Int32} (hI : zInv μ) : zAll zInv E μ x1 x2 x3 x4 x5 9 := by
  obtain ⟨nc, nr, np, ni, rf, rt, hN, hC, hP, hL, hY, hI', hB, hF, hK, hA⟩ := id hI
  have h12 := hN.1.2.2
  by_cases hb : zrg nc x1 ∧ zrg 24 x2 ∧ zrg 24 x3
  · obtain ⟨c, hc, rfl⟩ := zrg_of hb.1 (by omega)
    obtain ⟨p, hp, rfl⟩ := zrg_of hb.2.1 (by omega)
    obtain ⟨q, hq, rfl⟩ := zrg_of hb.2.2 (by omega)
    left
    have k3 := (hK c hc).2.2
    have hx := (k3 p hp).1
    have hy := (k3 q hq).1
    refine ⟨zu (zu μ (36 + 7 * c) p (μ (36 + 7 * c) q)) (36 + 7 * c) q (μ (36 + 7 * c) p), zu (zu (zu (zu (zu μ (36 + 7 * c) p (μ (36 + 7 * c) q)) (36 + 7 * c) q (μ (36 + 7 * c) p)) 117 0 (nI 0)) 133 (24 * c + p) (μ 133 (24 * c + q))) 133 (24 * c + q) (μ 133 (24 * c + p)), fun g => ct_X7_exchange hN.1.1 h12 hc hp hq, fun g => ?_, ?_, ?_⟩
    · have o9 : zu (zu μ (36 + 7 * c) p (μ (36 + 7 * c) q)) (36 + 7 * c) q (μ (36 + 7 * c) p) 133 = μ 133 := by rw [zu_r (by omega), zu_r (by omega)]
      have o8 : zu (zu μ (36 + 7 * c) p (μ (36 + 7 * c) q)) (36 + 7 * c) q (μ (36 + 7 * c) p) 117 13 = nI nc := by rw [zu_o (by omega), zu_o (by omega)]; exact hN.1.2.1
      have h := ct_X8_exchange (E := E) (μ := zu (zu μ (36 + 7 * c) p (μ (36 + 7 * c) q)) (36 + 7 * c) q (μ (36 + 7 * c) p)) (g := g) o8 h12 hc hp hq
      rw [o9] at h
      exact h
    · rw [zu_o (by omega), zu_o (by omega), zu_s]
    · have o : ∀ k, k ≠ 36 + 7 * c → k ≠ 117 → k ≠ 133 → zu (zu (zu (zu (zu μ (36 + 7 * c) p (μ (36 + 7 * c) q)) (36 + 7 * c) q (μ (36 + 7 * c) p)) 117 0 (nI 0)) 133 (24 * c + p) (μ 133 (24 * c + q))) 133 (24 * c + q) (μ 133 (24 * c + p)) k = μ k := fun k h1 h2 h3 => by rw [zu_r h3, zu_r h3, zu_r h2, zu_r h1, zu_r h1]
      refine ⟨nc, nr, np, ni, rf, rt, kN (fun k hk j hj => ?_) hN, kC (fun k hk => o k (by omega) (by omega) (by omega)) hC, kP (fun k hk => o k (by omega) (by omega) (by omega)) hP, kL (fun k hk => o k (by omega) (by omega) (by omega)) hL, kY (fun k hk => o k (by omega) (by omega) (by omega)) hY, kI (fun k hk => o k (by omega) (by omega) (by omega)) hI', kB (o 130 (by omega) (by omega) (by omega)) hB, kF (fun c2 hc2 => o _ (by omega) (by omega) (by omega)) (o 140 (by omega) (by omega) (by omega)) hF, ?_, ?_⟩
      · rw [zu_o (by omega), zu_o (by omega)]
        by_cases h9 : k = 117
        · rw [h9, zu_o2 (by omega), zu_o (by omega), zu_o (by omega)]
        · rw [zu_o h9, zu_o (by omega), zu_o (by omega)]
      · intro c2 hc2
        obtain ⟨a1, a2, a3⟩ := hK c2 hc2
        refine ⟨?_, fun b hb => ?_, fun r hr => ?_⟩
        · rw [o (33 + 7 * c2) (by omega) (by omega) (by omega), o 128 (by omega) (by omega) (by omega)]
          exact a1
        · rw [o (38 + 7 * c2) (by omega) (by omega) (by omega), o 129 (by omega) (by omega) (by omega)]
          exact a2 b hb
        · have h9 := a3 r hr
          unfold rQ at h9 ⊢
          rw [o (37 + 7 * c2) (by omega) (by omega) (by omega), o (34 + 7 * c2) (by omega) (by omega) (by omega), o (35 + 7 * c2) (by omega) (by omega) (by omega), o 134 (by omega) (by omega) (by omega), o 130 (by omega) (by omega) (by omega), o 131 (by omega) (by omega) (by omega), o 132 (by omega) (by omega) (by omega)]
          refine ⟨?_, h9.2⟩
          have hor : ∀ k, k ≠ 36 + 7 * c → k ≠ 117 → ∀ j, j ≠ 24 * c + p → j ≠ 24 * c + q → zu (zu (zu (zu (zu μ (36 + 7 * c) p (μ (36 + 7 * c) q)) (36 + 7 * c) q (μ (36 + 7 * c) p)) 117 0 (nI 0)) 133 (24 * c + p) (μ 133 (24 * c + q))) 133 (24 * c + q) (μ 133 (24 * c + p)) k j = μ k j := fun k h1 h2 j h3 h4 => by rw [zu_o2 h4, zu_o2 h3, zu_o h2, zu_o h1, zu_o h1]
          by_cases e : c2 = c
          · subst e
            by_cases e1 : r = q
            · subst e1
              refine ⟨?_, ?_⟩
              · refine Eq.trans ?_ (hx.1.trans ?_)
                · rw [zu_o (by omega), zu_o (by omega), zu_o (by omega), zu_s]
                · rw [zu_s]
              · rw [zu_o (by omega), zu_o (by omega), zu_o (by omega), zu_s]
                exact hx.2
            · by_cases e2 : r = p
              · subst e2
                refine ⟨?_, ?_⟩
                · refine Eq.trans ?_ (hy.1.trans ?_)
                  · rw [zu_o (by omega), zu_o (by omega), zu_o (by omega), zu_o2 e1, zu_s]
                  · rw [zu_o2 (by omega), zu_s]
                · rw [zu_o (by omega), zu_o (by omega), zu_o (by omega), zu_o2 e1, zu_s]
                  exact hy.2
              · refine ⟨?_, ?_⟩
                · refine Eq.trans ?_ (h9.1.1.trans ?_)
                  · rw [zu_o (by omega), zu_o (by omega), zu_o (by omega), zu_o2 e1, zu_o2 e2]
                  · rw [hor 133 (by omega) (by omega) _ (by omega) (by omega)]
                · rw [zu_o (by omega), zu_o (by omega), zu_o (by omega), zu_o2 e1, zu_o2 e2]
                  exact h9.1.2
          · rw [o (36 + 7 * c2) (by omega) (by omega) (by omega), hor 133 (by omega) (by omega) _ (by omega) (by omega)]
            exact h9.1
      · intro r hr
        obtain ⟨f, hf⟩ := hA r hr
        refine ⟨f, fun c2 hc2 j hj e => hf c2 hc2 j hj ?_⟩
        rw [o (37 + 7 * c2) (by omega) (by omega) (by omega)] at e
        exact e
  · right
    exact ⟨_, fun g => ctx_X7_exchange hN.1.1 h12 hb, fun g => ctx_X8_exchange hN.1.2.1 h12 hb, zu_s, zInv_t hI⟩
