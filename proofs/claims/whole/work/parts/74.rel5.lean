/-! ofIsland -/
theorem n1e : nI 1 = 1 := rfl
theorem add_0 (x : Int32) : x + nI 0 = x := by rw [nI_0, Int32.add_zero]
theorem doi_eq {μ : zMu} {nc ni k : Nat} (hF : rF μ nc ni) (hk : k < 20) : ∀ n, n ≤ 12 → zit (doi μ k) 0 n (nI 0, -1) = (zit (cwith μ k) 0 n (nI 0), zit (chigh μ k) 0 n (-1))
  | 0, _ => rfl
  | n + 1, h => by
    rw [zit_s, zit_s, zit_s, doi_eq hF hk n (by omega)]
    have hf := (hF (0 + n) (by omega) k hk).1
    unfold doi cwith chigh
    rw [hf]
    by_cases h0 : μ 140 (20 * (0 + n) + k) = 0
    · rw [if_pos h0, if_pos h0, if_pos h0, add_0]
    · rw [if_neg h0, if_neg h0, if_neg h0, n1e]
theorem zoi_eq {μ : zMu} {nc ni k w : Nat} {x : Int32} (hw : w < 5) (hF : rF μ nc ni) (hI : rI μ) (hn : nc ≤ 12) (hk : k < 20) : zoi μ nc k w = zoi8 (zu μ 117 0 x) nc k w := by
  have e : doi (zu μ 117 0 x) k = doi μ k := rfl
  obtain ⟨i1, i2, i3⟩ := hI k hk
  have hws : w = 0 ∨ w = 1 ∨ w = 2 ∨ w = 3 ∨ w = 4 := by omega
  rcases hws with rfl | rfl | rfl | rfl | rfl
  · rw [zoi, zoi8, e, doi_eq hF hk nc hn]
  · rw [zoi, zoi8, i1, zu_o (by decide)]
  · rw [zoi, zoi8, i2, zu_o (by decide)]
  · rw [zoi, zoi8, i3, zu_o (by decide)]
  · show zit (chigh μ k) 0 nc (-1) = (zit (doi (zu μ 117 0 x) k) 0 nc (nI 0, -1)).2
    rw [e, doi_eq hF hk nc hn]
theorem za_ofIsland {E : Nat × (Nat → Int32)} {μ : zMu} {x1 x2 x3 x4 x5 : Int32} (hI : zInv μ) : zAll zInv E μ x1 x2 x3 x4 x5 17 := by
  obtain ⟨nc, nr, np, ni, rf, rt, hN, hC, hP, hL, hY, hI', hB, hF, hK, hA⟩ := id hI
  have h12 := hN.1.2.2
  have h20 := hN.2.2.2.2.2
  rcases zrg_cases ni (by omega) x1 with hb | ⟨i, hi, rfl⟩
  · right; left
    exact ⟨_, _, fun g => ctx_X7_ofIsland hN.2.2.2.1 h20 hb, fun g => ctx_X8_ofIsland hN.2.2.2.2.1 h20 hb, zu_s, zInv_t hI⟩
  · rcases zrg_cases 5 (by omega) x2 with hw | ⟨w, hw, rfl⟩
    · right; right
      exact ⟨_, _, fun g => cta_X7_ofIsland hN.1.1 h12 hN.2.2.2.1 h20 hi hw, fun g => cta_X8_ofIsland hN.2.2.2.2.1 h20 hi hw, zu_s, zInv_t hI⟩
    · left
      refine ⟨μ, zu μ 117 0 (nI 0), zoi μ nc i w, fun g => ct_X7_ofIsland hN.1.1 h12 hN.2.2.2.1 h20 hi hw, fun g => ?_, zu_s, zInv_t hI⟩
      rw [zoi_eq (x := nI 0) hw hF hI' h12 (by omega)]
      exact ct_X8_ofIsland hN.1.2.1 h12 hN.2.2.2.2.1 h20 hi hw
