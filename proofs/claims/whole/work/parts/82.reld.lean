/-! reads -/
theorem za_reads {E : Nat × (Nat → Int32)} {μ : zMu} {x1 x2 x3 x4 x5 : Int32} (hI : zInv μ) : zAll zInv E μ x1 x2 x3 x4 x5 5 := by
  obtain ⟨nc, nr, np, ni, rf, rt, hN, hC, hP, hL, hY, hI', hB, hF, hK, hA⟩ := id hI
  have h12 := hN.1.2.2
  rcases zrg_cases 4 (by omega) x1 with hb | ⟨q, hq, rfl⟩
  · right; left
    exact ⟨_, fun g => ctx_X7_reads hb, fun g => ctx_X8_reads hb, zu_s, zInv_t hI⟩
  · by_cases hz : znm x2 ∧ znm x3
    · left
      obtain ⟨a, ha, rfl⟩ := znm_of hz.1
      have ea : (nI a).toNatClampNeg = a := nI_clamp (by omega)
      refine ⟨zu μ (26 + 2 * q) a x3, zu (zu (zu μ (26 + 2 * q) a x3) 117 0 (nI 0)) 136 (100 * q + a) x3, fun g => ?_, fun g => ?_, ?_, ?_⟩
      · have h := ct_X7_reads (E := E) (μ := μ) (g := g) hq (a := nI a) (w := x3)
        rw [if_neg (fun q => q hz), ea] at h
        exact h
      · have h := ct_X8_reads (E := E) (μ := zu μ (26 + 2 * q) a x3) (g := g) hq (a := nI a) (w := x3)
        rw [if_neg (fun q => q hz), ea] at h
        exact h
      · exact (zu_o (by decide)).trans zu_s
      · have o : ∀ k, k ≠ 136 → k ≠ 117 → k ≠ 26 + 2 * q → zu (zu (zu μ (26 + 2 * q) a x3) 117 0 (nI 0)) 136 (100 * q + a) x3 k = μ k := fun k h1 h2 h3 => by rw [zu_r h1, zu_r h2, zu_r h3]
        refine ⟨nc, nr, np, ni, rf, rt, kN (fun k hk j hj => ?_) hN, kC (fun k hk => o k (by omega) (by omega) (by omega)) hC, kP (fun k hk => o k (by omega) (by omega) (by omega)) hP, kL (fun k hk => o k (by omega) (by omega) (by omega)) hL, ?_, kI (fun k hk => o k (by omega) (by omega) (by omega)) hI', kB (o 130 (by omega) (by omega) (by omega)) hB, kF (fun c hc => o _ (by omega) (by omega) (by omega)) (o 140 (by omega) (by omega) (by omega)) hF, kK h12 (fun k h1 h2 => o k (by omega) (by omega) (by omega)) (fun k h1 h2 => o k (by omega) (by omega) (by omega)) hK, kA h12 (fun k h1 h2 => o k (by omega) (by omega) (by omega)) hA⟩
        · rw [zu_o (by omega)]
          by_cases h9 : k = 117
          · rw [h9, zu_o2 (by omega), zu_o (by omega)]
          · rw [zu_o h9, zu_o (by omega)]
        · intro q2 hq2
          obtain ⟨y1, y2, y3⟩ := hY q2 hq2
          rw [o (25 + 2 * q2) (by omega) (by omega) (by omega), o 135 (by omega) (by omega) (by omega)]
          refine ⟨y1, y2, fun j hj => ?_⟩
          by_cases e : q2 = q ∧ j = a
          · obtain ⟨rfl, rfl⟩ := e
            refine ⟨?_, fun _ => ?_⟩
            · rw [zu_o (by omega), zu_o (by omega), zu_s, zu_s]
            · rw [zu_s]
              exact hz.2
          · have e136 : zu (zu (zu μ (26 + 2 * q) a x3) 117 0 (nI 0)) 136 (100 * q + a) x3 136 (100 * q2 + j) = μ 136 (100 * q2 + j) := by
              rw [zu_o2 (by omega), zu_o (by omega), zu_o (by omega)]
            have e26 : zu (zu (zu μ (26 + 2 * q) a x3) 117 0 (nI 0)) 136 (100 * q + a) x3 (26 + 2 * q2) j = μ (26 + 2 * q2) j := by
              rw [zu_o (by omega), zu_o (by omega)]
              by_cases e2 : q2 = q
              · subst e2
                rw [zu_o2 (fun h => e ⟨rfl, h⟩)]
              · rw [zu_o (by omega)]
            rw [e136, e26]
            exact y3 j hj
    · right; right
      refine ⟨zu μ 117 0 (nI 2), fun g => ?_, fun g => ?_, zu_s, zInv_t hI⟩
      · have h := ct_X7_reads (E := E) (μ := μ) (g := g) hq (a := x2) (w := x3)
        rw [if_pos hz] at h
        exact h
      · have h := ct_X8_reads (E := E) (μ := μ) (g := g) hq (a := x2) (w := x3)
        rw [if_pos hz] at h
        exact h
