/-! at -/
theorem rb_kn {n : Nat} {x : Int32} (hn : n < 100000) (h : rb n x) : ¬ x = 100000 := fun q => by
  have h1 := h.2
  rw [q] at h1
  have h2 : (100000 : Int32).toInt = 100000 := by decide
  omega
theorem zat_eq {μ : zMu} {nc c p w : Nat} (hc : c < 12) (hw : w < 6) (hC : rC μ) (hp : p < 24) (h : rQ μ nc c p) : zat μ c p w = zat8 μ c p w := by
  obtain ⟨⟨h1, -⟩, h2, h3⟩ := h
  obtain ⟨⟨c1, c2, -, -⟩, -⟩ := hC p hp
  have hws : w = 0 ∨ w = 1 ∨ w = 2 ∨ w = 3 ∨ w = 4 ∨ w = 5 := by omega
  rcases h3 with ⟨k0, ⟨k1, k2⟩, ⟨⟨b1, b2⟩, -⟩, -⟩ | ⟨k0, k1, k2, k3⟩
  · rcases hws with rfl | rfl | rfl | rfl | rfl | rfl
    · rw [zat, zat8, if_neg k0, k1]
    · rw [zat, zat8, if_neg k0, k2]
    · rw [zat, zat8, h1]
    · rw [zat, zat8, znx, if_neg k0, h2]
    · have hk : zkn μ c p := rb_kn (n := 41060 + 9 * c) (by omega) ⟨b1, b2⟩
      rw [zat, zat8, if_neg k0, if_pos hk, k1, c1]
    · have hk : zkn μ c p := rb_kn (n := 41060 + 9 * c) (by omega) ⟨b1, b2⟩
      show (if zkn μ c p then μ (35 + 7 * c) p - μ 4 p else 100000) = (if μ 130 (24 * c + p) = 0 then 100000 else μ 132 (24 * c + p) - μ 119 p)
      rw [if_neg k0, if_pos hk, k2, c2]
  · rcases hws with rfl | rfl | rfl | rfl | rfl | rfl
    · rw [zat, zat8, if_pos k0, k1]
    · rw [zat, zat8, if_pos k0, k2]
    · rw [zat, zat8, h1]
    · rw [zat, zat8, znx, if_pos k0, k3]
    · rw [zat, zat8, if_pos k0, if_neg (fun q => q k1)]
    · show (if zkn μ c p then μ (35 + 7 * c) p - μ 4 p else 100000) = (if μ 130 (24 * c + p) = 0 then 100000 else μ 132 (24 * c + p) - μ 119 p)
      rw [if_pos k0, if_neg (fun q => q k1)]
theorem za_at {E : Nat × (Nat → Int32)} {μ : zMu} {x1 x2 x3 x4 x5 : Int32} (hI : zInv μ) : zAll zInv E μ x1 x2 x3 x4 x5 14 := by
  obtain ⟨nc, nr, np, ni, rf, rt, hN, hC, hP, hL, hY, hI', hB, hF, hK, hA⟩ := id hI
  have h12 := hN.1.2.2
  by_cases hb : zrg nc x1 ∧ zrg 24 x2
  · obtain ⟨c, hc, rfl⟩ := zrg_of hb.1 (by omega)
    obtain ⟨p, hp, rfl⟩ := zrg_of hb.2 (by omega)
    rcases zrg_cases 6 (by omega) x3 with hw | ⟨w, hw, rfl⟩
    · right; right
      exact ⟨_, _, fun g => cta_X7_at hN.1.1 h12 hc hp hw, fun g => cta_X8_at hN.1.2.1 h12 hc hp hw, zu_s, zInv_t hI⟩
    · left
      refine ⟨μ, zu μ 117 0 (nI 0), zat μ c p w, fun g => ct_X7_at hN.1.1 h12 hc hp hw, fun g => ?_, zu_s, zInv_t hI⟩
      rw [zat_eq (by omega) hw hC hp ((hK c hc).2.2 p hp)]
      exact ct_X8_at hN.1.2.1 h12 hc hp hw
  · right; left
    exact ⟨_, _, fun g => ctx_X7_at hN.1.1 h12 hb, fun g => ctx_X8_at hN.1.2.1 h12 hb, zu_s, zInv_t hI⟩
