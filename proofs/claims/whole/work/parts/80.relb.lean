/-! coast -/
theorem za_coast {E : Nat × (Nat → Int32)} {μ : zMu} {x1 x2 x3 x4 x5 : Int32} (hI : zInv μ) : zAll zInv E μ x1 x2 x3 x4 x5 0 := by
  obtain ⟨nc, nr, np, ni, rf, rt, hN, hC, hP, hL, hY, hI', hB, hF, hK, hA⟩ := id hI
  obtain ⟨n1, n2, n3, n4⟩ := hN
  have h12 := n1.2.2
  have h60 := n2.2.2
  rcases zrg_cases 24 (by omega) x1 with hb | ⟨j, hj, rfl⟩
  · right; left
    exact ⟨_, fun g => ctx_X7_coast hb, fun g => ctx_X8_coast hb, zu_s, zInv_t hI⟩
  · by_cases hz : zin x2 (nI 500) ∧ zin x3 (nI 500) ∧ znm x4 ∧ zyr x5
    · by_cases hp : 0 < nr
      · right; right; right
        refine ⟨zu μ 117 0 (nI 3), fun g => ?_, fun g => ?_, zu_s, zInv_t hI⟩
        · have h := ct_X7_coast (E := E) (μ := μ) (g := g) n2.1 h60 hj (x := x2) (y := x3) (n := x4) (t := x5)
          rw [if_neg (fun q => q hz), if_pos hp] at h
          exact h
        · have h := ct_X8_coast (E := E) (μ := μ) (g := g) n2.2.1 h60 hj (x := x2) (y := x3) (n := x4) (t := x5)
          rw [if_neg (fun q => q hz), if_pos hp] at h
          exact h
      · left
        refine ⟨zu (zu (zu (zu μ 3 j x2) 4 j x3) 5 j x4) 6 j x5, zu (zu (zu (zu (zu (zu (zu (zu (zu μ 3 j x2) 4 j x3) 5 j x4) 6 j x5) 117 0 (nI 0)) 118 j x2) 119 j x3) 120 j x4) 121 j x5, fun g => ?_, fun g => ?_, rfl, ?_⟩
        · have h := ct_X7_coast (E := E) (μ := μ) (g := g) n2.1 h60 hj (x := x2) (y := x3) (n := x4) (t := x5)
          rw [if_neg (fun q => q hz), if_neg hp] at h
          exact h
        · have h := ct_X8_coast (E := E) (μ := zu (zu (zu (zu μ 3 j x2) 4 j x3) 5 j x4) 6 j x5) (g := g) (nr := nr) n2.2.1 h60 hj (x := x2) (y := x3) (n := x4) (t := x5)
          rw [if_neg (fun q => q hz), if_neg hp] at h
          exact h
        · have o : ∀ k, (k < 3 ∨ 6 < k) → k ≠ 117 → (k < 118 ∨ 121 < k) → zu (zu (zu (zu (zu (zu (zu (zu (zu μ 3 j x2) 4 j x3) 5 j x4) 6 j x5) 117 0 (nI 0)) 118 j x2) 119 j x3) 120 j x4) 121 j x5 k = μ k := fun k h1 h2 h3 => by rw [zu_r (by omega), zu_r (by omega), zu_r (by omega), zu_r (by omega), zu_r (by omega), zu_r (by omega), zu_r (by omega), zu_r (by omega), zu_r (by omega)]
          refine ⟨nc, nr, np, ni, rf, rt, ⟨n1, n2, n3, n4⟩, ?_, kP (fun k hk => o k (by omega) (by omega) (by omega)) hP, kL (fun k hk => o k (by omega) (by omega) (by omega)) hL, kY (fun k hk => o k (by omega) (by omega) (by omega)) hY, kI (fun k hk => o k (by omega) (by omega) (by omega)) hI', kB (o 130 (by omega) (by omega) (by omega)) hB, kF (fun c hc => o _ (by omega) (by omega) (by omega)) (o 140 (by omega) (by omega) (by omega)) hF, kK h12 (fun k h1 h2 => o k (by omega) (by omega) (by omega)) (fun k h1 h2 => o k (by omega) (by omega) (by omega)) hK, kA h12 (fun k h1 h2 => o k (by omega) (by omega) (by omega)) hA⟩
          intro q hq
          show ((if q = j then x2 else μ 3 q) = (if q = j then x2 else μ 118 q) ∧ (if q = j then x3 else μ 4 q) = (if q = j then x3 else μ 119 q) ∧ (if q = j then x4 else μ 5 q) = (if q = j then x4 else μ 120 q) ∧ (if q = j then x5 else μ 6 q) = (if q = j then x5 else μ 121 q)) ∧ zin (if q = j then x2 else μ 3 q) (nI 500) ∧ zin (if q = j then x3 else μ 4 q) (nI 500) ∧ znm (if q = j then x4 else μ 5 q)
          by_cases e : q = j
          · simp only [if_pos e]
            exact ⟨by simp, hz.1, hz.2.1, hz.2.2.1⟩
          · simp only [if_neg e]
            exact hC q hq
    · right; right; left
      refine ⟨zu μ 117 0 (nI 2), fun g => ?_, fun g => ?_, zu_s, zInv_t hI⟩
      · have h := ct_X7_coast (E := E) (μ := μ) (g := g) n2.1 h60 hj (x := x2) (y := x3) (n := x4) (t := x5)
        rw [if_pos hz] at h
        exact h
      · have h := ct_X8_coast (E := E) (μ := μ) (g := g) n2.2.1 h60 hj (x := x2) (y := x3) (n := x4) (t := x5)
        rw [if_pos hz] at h
        exact h
