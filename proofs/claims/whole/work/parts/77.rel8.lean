/-! shared -/
theorem sub0 {a b : Int32} : a - b = 0 ↔ a = b := by
  constructor
  · intro h
    have h1 : a - b + b = 0 + b := by rw [h]
    rw [Int32.sub_add_cancel, Int32.zero_add] at h1
    exact h1
  · intro h
    rw [h, Int32.sub_self]
theorem zsum {f : Nat → Int32 → Int32} {t : Nat → Int32} {a : Nat} (h : ∀ i s, f i s = s + t i) : ∀ (n : Nat) (s : Int32), zit f a n s = s + zit f a n (nI 0)
  | 0, s => (add_0 s).symm
  | n + 1, s => by rw [zit_s, zit_s, zsum h n s, h, h, Int32.add_assoc]
theorem dsb_t (μ : zMu) (c d i : Nat) (s : Int32) : dsb μ c d i s = s + ((if dsA μ c d i then nI 1 else nI 0) + (if dsB μ c d i then nI 1 else nI 0)) := by rw [dsb, Int32.add_assoc]
theorem csha_eq {μ : zMu} {nc c d p : Nat} {s : Int32} (hc : c < 12) (hd : d < 12) (hp : p < 24) (hC : rC μ) (h1 : rQ μ nc c p) (h2 : rQ μ nc d p) : csha μ c d p s = dsb μ c d p s := by
  have k1 := zkn_iff hc h1
  have k2 := zkn_iff hd h2
  obtain ⟨⟨c1, c2, c3, -⟩, -⟩ := hC p hp
  have hN : (μ (36 + 7 * c) p = μ (36 + 7 * d) p ∧ ¬ ztn μ c p) ↔ dsB μ c d p := by
    unfold ztn dsB
    rw [h1.1.1, h2.1.1, c3]
  have hS : zshe μ c d p ↔ dsA μ c d p := by
    unfold zshe dsA
    rw [k1, k2, sub0, sub0, c1, c2]
    rcases h1.2.2 with ⟨a0, ⟨a1, a2⟩, -⟩ | ⟨a0, -⟩
    · rcases h2.2.2 with ⟨b0, ⟨b1, b2⟩, -⟩ | ⟨b0, -⟩
      · rw [a1, a2, b1, b2]
      · exact ⟨fun q => absurd b0 q.2.1, fun q => absurd b0 q.2.1⟩
    · exact ⟨fun q => absurd a0 q.1, fun q => absurd a0 q.1⟩
  rw [csha, dsb]
  by_cases hb : dsB μ c d p
  · rw [if_pos (hN.mpr hb), if_pos hb]
    by_cases ha : dsA μ c d p
    · rw [if_pos (hS.mpr ha), if_pos ha, n1e]
    · rw [if_neg (fun q => ha (hS.mp q)), if_neg ha, add_0, n1e]
  · rw [if_neg (fun q => hb (hN.mp q)), if_neg hb, add_0]
    by_cases ha : dsA μ c d p
    · rw [if_pos (hS.mpr ha), if_pos ha, n1e]
    · rw [if_neg (fun q => ha (hS.mp q)), if_neg ha, add_0]
theorem dsi_eq {μ : zMu} {nc ni c d : Nat} (hc : c < 12) (hd : d < 12) (hF : rF μ nc ni) (hi : ni ≤ 20) : zit (dsi μ c d) 0 ni (nI 0) = zit (cisl μ c d) 0 20 (nI 0) := by
  have h1 : ∀ n, n ≤ 20 → zit (cisl μ c d) 0 n (nI 0) = zit (dsi μ c d) 0 n (nI 0) := fun n hn => zit_congr n (fun i hi9 s => by
    have hf := (hF c hc (0 + i) (by omega)).1
    have hg := (hF d hd (0 + i) (by omega)).1
    rw [cisl, dsi, hf, hg]
    by_cases h0 : ¬ μ 140 (20 * c + (0 + i)) = 0 ∧ ¬ μ 140 (20 * d + (0 + i)) = 0
    · rw [if_pos h0, if_pos h0, n1e]
    · rw [if_neg h0, if_neg h0, add_0]) _
  have h2 : ∀ k, ni + k ≤ 20 → zit (dsi μ c d) 0 (ni + k) (nI 0) = zit (dsi μ c d) 0 ni (nI 0) := by
    intro k
    induction k with
    | zero => intro _; rfl
    | succ k ih =>
      intro hk
      have hz := (hF c hc (0 + (ni + k)) (by omega)).2.2 (Or.inr (by omega))
      rw [← Nat.add_assoc, zit_s, ih (by omega), dsi, if_neg (fun q => q.1 hz), add_0]
  rw [h1 20 (Nat.le_refl _), ← h2 (20 - ni) (by omega), show ni + (20 - ni) = 20 by omega]
theorem cshared_eq {μ : zMu} {nc ni c d b : Nat} {x : Int32} (hc : c < nc) (hd : d < nc) (hb : b < 3) (h12 : nc ≤ 12) (hi : ni ≤ 20) (hC : rC μ) (hF : rF μ nc ni) (hK : rK μ nc) : cshared μ c d b = dshared (zu μ 117 0 x) c d b ni := by
  have e : dsb (zu μ 117 0 x) c d = dsb μ c d := rfl
  have e2 : dsi (zu μ 117 0 x) c d = dsi μ c d := rfl
  rw [cshared, dshared, e, e2, Nat.mul_comm 8 b, zit_congr 8 (fun i hi9 s => csha_eq (by omega) (by omega) (by omega) hC ((hK c hc).2.2 _ (by omega)) ((hK d hd).2.2 _ (by omega))), zsum (dsb_t μ c d) 8, zsum (f := dsi μ c d) (fun i s => rfl) ni (zit (dsb μ c d) (b * 8) 8 (nI 0)), dsi_eq (by omega) (by omega) hF hi, Int32.add_comm]
theorem za_shared {E : Nat × (Nat → Int32)} {μ : zMu} {x1 x2 x3 x4 x5 : Int32} (hI : zInv μ) : zAll zInv E μ x1 x2 x3 x4 x5 19 := by
  obtain ⟨nc, nr, np, ni, rf, rt, hN, hC, hP, hL, hY, hI', hB, hF, hK, hA⟩ := id hI
  have h12 := hN.1.2.2
  have h20 := hN.2.2.2.2.2
  by_cases hb : zrg nc x1 ∧ zrg nc x2 ∧ zrg 3 x3
  · obtain ⟨c, hc, rfl⟩ := zrg_of hb.1 (by omega)
    obtain ⟨d, hd, rfl⟩ := zrg_of hb.2.1 (by omega)
    obtain ⟨b, hb3, rfl⟩ := zrg_of hb.2.2 (by omega)
    left
    refine ⟨μ, zu μ 117 0 (nI 0), cshared μ c d b, fun g => ct_X7_shared hN.1.1 h12 hc hd hb3, fun g => ?_, zu_s, zInv_t hI⟩
    rw [cshared_eq (x := nI 0) hc hd hb3 h12 h20 hC hF hK]
    exact ct_X8_shared hN.1.2.1 h12 hN.2.2.2.2.1 h20 hc hd hb3
  · right
    exact ⟨_, _, fun g => ctx_X7_shared hN.1.1 h12 hb, fun g => ctx_X8_shared hN.1.2.1 h12 hb, zu_s, zInv_t hI⟩
