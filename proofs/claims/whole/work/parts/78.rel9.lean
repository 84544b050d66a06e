/-! kin -/
theorem ckin_eq {μ : zMu} {nc ni c b i : Nat} {x : Int32} {s : Int32 × Int32} (hc : c < nc) (hd : i < nc) (hb : b < 3) (h12 : nc ≤ 12) (hi : ni ≤ 20) (hC : rC μ) (hF : rF μ nc ni) (hK : rK μ nc) : ckin μ c b i s = dki (zu μ 117 0 x) c b ni i s := by
  rw [ckin, dki, cshared_eq (x := x) hc hd hb h12 hi hC hF hK]
  by_cases h : dshared (zu μ 117 0 x) c i b ni ≤ s.2
  · rw [if_pos h, if_pos h, if_pos h]
  · rw [if_neg h, if_neg h, if_neg h]
theorem za_kin {E : Nat × (Nat → Int32)} {μ : zMu} {x1 x2 x3 x4 x5 : Int32} (hI : zInv μ) : zAll zInv E μ x1 x2 x3 x4 x5 20 := by
  obtain ⟨nc, nr, np, ni, rf, rt, hN, hC, hP, hL, hY, hI', hB, hF, hK, hA⟩ := id hI
  have h12 := hN.1.2.2
  have h20 := hN.2.2.2.2.2
  by_cases hb : zrg nc x1 ∧ zrg 3 x2
  · obtain ⟨c, hc, rfl⟩ := zrg_of hb.1 (by omega)
    obtain ⟨b, hb3, rfl⟩ := zrg_of hb.2 (by omega)
    left
    refine ⟨μ, zu μ 117 0 (nI 0), (zit (ckin μ c b) 0 c (-1, nI 0)).1, fun g => ct_X7_kin hN.1.1 h12 hc hb3, fun g => ?_, zu_s, zInv_t hI⟩
    rw [zit_congr (g := dki (zu μ 117 0 (nI 0)) c b ni) c (fun i hi9 s => ckin_eq hc (by omega) hb3 h12 h20 hC hF hK)]
    exact ct_X8_kin hN.1.2.1 h12 hN.2.2.2.2.1 h20 hc hb3
  · right
    exact ⟨_, _, fun g => ctx_X7_kin hN.1.1 h12 hb, fun g => ctx_X8_kin hN.1.2.1 h12 hb, zu_s, zInv_t hI⟩
