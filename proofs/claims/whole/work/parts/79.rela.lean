/-! pilot -/
theorem za_pilot {E : Nat × (Nat → Int32)} {μ : zMu} {x1 x2 x3 x4 x5 : Int32} (hI : zInv μ) : zAll zInv E μ x1 x2 x3 x4 x5 1 := by
  obtain ⟨nc, nr, np, ni, rf, rt, hN, hC, hP, hL, hY, hI', hB, hF, hK, hA⟩ := id hI
  obtain ⟨n1, n2, n3, n4⟩ := hN
  have h12 := n1.2.2
  have h6 := n3.2.2
  by_cases hz : zin x1 (nI 30) ∧ zin x2 (nI 30)
  · by_cases hp : np < 6
    · left
      refine ⟨zu (zu (zu μ 8 np x1) 9 np x2) 7 2 (nI (np + 1)), zu (zu (zu (zu (zu (zu (zu μ 8 np x1) 9 np x2) 7 2 (nI (np + 1))) 117 0 (nI 0)) 122 np x1) 123 np x2) 117 5 (nI (np + 1)), nI np, fun g => ?_, fun g => ?_, rfl, ?_⟩
      · have h := ct_X7_pilot (E := E) (μ := μ) (g := g) n3.1 h6 (x := x1) (y := x2)
        rw [if_neg (fun q => q hz), if_neg (fun q => q hp)] at h
        exact h
      · have h := ct_X8_pilot (E := E) (μ := zu (zu (zu μ 8 np x1) 9 np x2) 7 2 (nI (np + 1))) (g := g) (np := np) n3.2.1 h6 (x := x1) (y := x2)
        rw [if_neg (fun q => q hz), if_neg (fun q => q hp)] at h
        exact h
      · have o : ∀ k, k ≠ 7 → k ≠ 8 → k ≠ 9 → k ≠ 117 → k ≠ 122 → k ≠ 123 → zu (zu (zu (zu (zu (zu (zu μ 8 np x1) 9 np x2) 7 2 (nI (np + 1))) 117 0 (nI 0)) 122 np x1) 123 np x2) 117 5 (nI (np + 1)) k = μ k := fun k h1 h2 h3 h4 h5 h6 => by rw [zu_r h4, zu_r h6, zu_r h5, zu_r h4, zu_r h1, zu_r h3, zu_r h2]
        refine ⟨nc, nr, np + 1, ni, rf, rt, ⟨n1, n2, ⟨rfl, rfl, by omega⟩, n4⟩, kC (fun k hk => o k (by omega) (by omega) (by omega) (by omega) (by omega) (by omega)) hC, ?_, kL (fun k hk => o k (by omega) (by omega) (by omega) (by omega) (by omega) (by omega)) hL, kY (fun k hk => o k (by omega) (by omega) (by omega) (by omega) (by omega) (by omega)) hY, kI (fun k hk => o k (by omega) (by omega) (by omega) (by omega) (by omega) (by omega)) hI', kB (o 130 (by omega) (by omega) (by omega) (by omega) (by omega) (by omega)) hB, kF (fun c hc => o _ (by omega) (by omega) (by omega) (by omega) (by omega) (by omega)) (o 140 (by omega) (by omega) (by omega) (by omega) (by omega) (by omega)) hF, kK h12 (fun k h1 h2 => o k (by omega) (by omega) (by omega) (by omega) (by omega) (by omega)) (fun k h1 h2 => o k (by omega) (by omega) (by omega) (by omega) (by omega) (by omega)) hK, kA h12 (fun k h1 h2 => o k (by omega) (by omega) (by omega) (by omega) (by omega) (by omega)) hA⟩
        intro q hq
        by_cases e : q = np
        · subst e
          refine ⟨⟨?_, ?_⟩, ?_, ?_⟩
          · show (if q = q then x1 else _) = (if q = q then x1 else _)
            rw [if_pos rfl, if_pos rfl]
          · show (if q = q then x2 else _) = (if q = q then x2 else _)
            rw [if_pos rfl, if_pos rfl]
          · show zin (if q = q then x1 else _) (nI 30)
            rw [if_pos rfl]
            exact hz.1
          · show zin (if q = q then x2 else _) (nI 30)
            rw [if_pos rfl]
            exact hz.2
        · obtain ⟨⟨p1, p2⟩, p3, p4⟩ := hP q hq
          refine ⟨⟨?_, ?_⟩, ?_, ?_⟩
          · show (if q = np then x1 else μ 8 q) = (if q = np then x1 else μ 122 q)
            rw [if_neg e, if_neg e]
            exact p1
          · show (if q = np then x2 else μ 9 q) = (if q = np then x2 else μ 123 q)
            rw [if_neg e, if_neg e]
            exact p2
          · show zin (if q = np then x1 else μ 8 q) (nI 30)
            rw [if_neg e]
            exact p3
          · show zin (if q = np then x2 else μ 9 q) (nI 30)
            rw [if_neg e]
            exact p4
    · right; right
      refine ⟨zu μ 117 0 (nI 2), nI 0, fun g => ?_, fun g => ?_, zu_s, zInv_t hI⟩
      · have h := ct_X7_pilot (E := E) (μ := μ) (g := g) n3.1 h6 (x := x1) (y := x2)
        rw [if_neg (fun q => q hz), if_pos hp] at h
        exact h
      · have h := ct_X8_pilot (E := E) (μ := μ) (g := g) n3.2.1 h6 (x := x1) (y := x2)
        rw [if_neg (fun q => q hz), if_pos hp] at h
        exact h
  · right; left
    refine ⟨zu μ 117 0 (nI 1), nI 0, fun g => ?_, fun g => ?_, zu_s, zInv_t hI⟩
    · have h := ct_X7_pilot (E := E) (μ := μ) (g := g) n3.1 h6 (x := x1) (y := x2)
      rw [if_pos hz] at h
      exact h
    · have h := ct_X8_pilot (E := E) (μ := μ) (g := g) n3.2.1 h6 (x := x1) (y := x2)
      rw [if_pos hz] at h
      exact h
