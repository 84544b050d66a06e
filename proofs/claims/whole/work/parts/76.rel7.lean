/-! of -/
theorem zkn_iff {μ : zMu} {nc c p : Nat} (hc : c < 12) (h : rQ μ nc c p) : zkn μ c p ↔ ¬ μ 130 (24 * c + p) = 0 := by
  obtain ⟨-, -, h3⟩ := h
  rcases h3 with ⟨k0, -, ⟨b1, -⟩, -⟩ | ⟨k0, k1, -, -⟩
  · exact ⟨fun _ => k0, fun _ => rb_kn (n := 41060 + 9 * c) (by omega) b1⟩
  · exact ⟨fun q => absurd k1 q, fun q => absurd k0 q⟩
theorem dof_eq {μ : zMu} {nc c : Nat} (hc : c < 12) (hC : rC μ) (h : ∀ p, p < 24 → rQ μ nc c p) : ∀ n, n ≤ 24 → zit (dof μ c) 0 n (nI 0, nI 0) = (zit (ckn μ c) 0 n (nI 0), zit (cfal μ c) 0 n (nI 0))
  | 0, _ => rfl
  | n + 1, hn => by
    rw [zit_s, zit_s, zit_s, dof_eq hc hC h n (by omega)]
    have h9 := h (0 + n) (by omega)
    have k1 := zkn_iff hc h9
    have k2 := h9.1.1
    have k3 := (hC (0 + n) (by omega)).1.2.2.1
    have e1 : ckn μ c (0 + n) (zit (ckn μ c) 0 n (nI 0)) = zit (ckn μ c) 0 n (nI 0) + (if μ 130 (24 * c + (0 + n)) = 0 then nI 0 else nI 1) := by
      rw [ckn]
      by_cases h0 : μ 130 (24 * c + (0 + n)) = 0
      · rw [if_pos h0, if_neg (fun q => k1.mp q h0), add_0]
      · rw [if_neg h0, if_pos (k1.mpr h0), n1e]
    have e2 : cfal μ c (0 + n) (zit (cfal μ c) 0 n (nI 0)) = zit (cfal μ c) 0 n (nI 0) + (if μ 133 (24 * c + (0 + n)) = μ 120 (0 + n) then nI 0 else nI 1) := by
      rw [cfal]
      by_cases h0 : μ 133 (24 * c + (0 + n)) = μ 120 (0 + n)
      · rw [if_pos h0, if_pos (show ztn μ c (0 + n) from k2.trans (h0.trans k3.symm)), add_0]
      · rw [if_neg h0, if_neg (fun q => h0 (k2.symm.trans ((show μ (36 + 7 * c) (0 + n) = μ 5 (0 + n) from q).trans k3))), n1e]
    rw [e1, e2]
    rfl
theorem ddr_eq {μ : zMu} {nc ni c : Nat} (hc : c < 12) (hF : rF μ nc ni) (hi : ni ≤ 20) : zit (ddr μ c) 0 ni (nI 0) = zit (cisl μ c c) 0 20 (nI 0) := by
  have h1 : ∀ n, n ≤ 20 → zit (cisl μ c c) 0 n (nI 0) = zit (ddr μ c) 0 n (nI 0) := fun n hn => zit_congr n (fun i hi9 s => by
    have hf := (hF c hc (0 + i) (by omega)).1
    rw [cisl, ddr, hf]
    by_cases h0 : μ 140 (20 * c + (0 + i)) = 0
    · rw [if_pos h0, if_neg (fun q => q.1 h0), add_0]
    · rw [if_neg h0, if_pos ⟨h0, h0⟩, n1e]) _
  have h2 : ∀ k, ni + k ≤ 20 → zit (ddr μ c) 0 (ni + k) (nI 0) = zit (ddr μ c) 0 ni (nI 0) := by
    intro k
    induction k with
    | zero => intro _; rfl
    | succ k ih =>
      intro hk
      have hz := (hF c hc (0 + (ni + k)) (by omega)).2.2 (Or.inr (by omega))
      rw [← Nat.add_assoc, zit_s, ih (by omega), ddr, if_pos hz, add_0]
  rw [h1 20 (Nat.le_refl _), ← h2 (20 - ni) (by omega), show ni + (20 - ni) = 20 by omega]
theorem zof_eq {μ : zMu} {nc ni c w : Nat} {x : Int32} (hw : w < 7) (hc : c < nc) (h12 : nc ≤ 12) (hi : ni ≤ 20) (hC : rC μ) (hF : rF μ nc ni) (hK : rK μ nc) : zof μ c w = zof8 (zu μ 117 0 x) c ni w := by
  have e : dof (zu μ 117 0 x) c = dof μ c := rfl
  have e2 : ddr (zu μ 117 0 x) c = ddr μ c := rfl
  obtain ⟨k1, k2, k3⟩ := hK c hc
  have hd := dof_eq (by omega) hC k3 24 (Nat.le_refl _)
  have hws : w = 0 ∨ w = 1 ∨ w = 2 ∨ w = 3 ∨ w = 4 ∨ w = 5 ∨ w = 6 := by omega
  rcases hws with rfl | rfl | rfl | rfl | rfl | rfl | rfl
  · rw [zof, zof8, k1, zu_o (by decide)]
  · rw [zof, zof8, e, hd]
  · rw [zof, zof8, e2, ddr_eq (by omega) hF hi]
  · rw [zof, zof8, zu_o (by decide)]; exact k2 0 (by omega)
  · rw [zof, zof8, zu_o (by decide)]; exact k2 1 (by omega)
  · rw [zof, zof8, zu_o (by decide)]; exact k2 2 (by omega)
  · show zit (cfal μ c) 0 24 (nI 0) = (zit (dof (zu μ 117 0 x) c) 0 24 (nI 0, nI 0)).2
    rw [e, hd]
theorem za_of {E : Nat × (Nat → Int32)} {μ : zMu} {x1 x2 x3 x4 x5 : Int32} (hI : zInv μ) : zAll zInv E μ x1 x2 x3 x4 x5 16 := by
  obtain ⟨nc, nr, np, ni, rf, rt, hN, hC, hP, hL, hY, hI', hB, hF, hK, hA⟩ := id hI
  have h12 := hN.1.2.2
  have h20 := hN.2.2.2.2.2
  rcases zrg_cases nc (by omega) x1 with hb | ⟨c, hc, rfl⟩
  · right; left
    exact ⟨_, _, fun g => ctx_X7_of hN.1.1 h12 hb, fun g => ctx_X8_of hN.1.2.1 h12 hb, zu_s, zInv_t hI⟩
  · rcases zrg_cases 7 (by omega) x2 with hw | ⟨w, hw, rfl⟩
    · right; right
      exact ⟨_, _, fun g => cta_X7_of hN.1.1 h12 hc hw, fun g => cta_X8_of hN.1.2.1 h12 hc hw, zu_s, zInv_t hI⟩
    · left
      refine ⟨μ, zu μ 117 0 (nI 0), zof μ c w, fun g => ct_X7_of hN.1.1 h12 hc hw, fun g => ?_, zu_s, zInv_t hI⟩
      rw [zof_eq (x := nI 0) hw hc h12 h20 hC hF hK]
      exact ct_X8_of hN.1.2.1 h12 hN.2.2.2.2.1 h20 hc hw
