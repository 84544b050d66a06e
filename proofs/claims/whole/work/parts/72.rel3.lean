/-! each part of what joins them, kept where its own cells are -/
theorem kN {μ ν : zMu} {nc nr np ni : Nat} (H : ∀ k, k = 1 ∨ k = 10 ∨ k = 7 ∨ k = 21 ∨ k = 117 → ∀ j, 0 < j → ν k j = μ k j) (h : rN μ nc nr np ni) : rN ν nc nr np ni := by
  unfold rN at h ⊢
  rw [H 1 (by omega) 7 (by omega), H 10 (by omega) 4 (by omega), H 7 (by omega) 2 (by omega), H 21 (by omega) 3 (by omega), H 117 (by omega) 13 (by omega), H 117 (by omega) 8 (by omega), H 117 (by omega) 5 (by omega), H 117 (by omega) 23 (by omega)]
  exact h
theorem kC {μ ν : zMu} (H : ∀ k, (3 ≤ k ∧ k ≤ 6) ∨ (118 ≤ k ∧ k ≤ 121) → ν k = μ k) (h : rC μ) : rC ν := by
  unfold rC at h ⊢
  rw [H 3 (by omega), H 4 (by omega), H 5 (by omega), H 6 (by omega), H 118 (by omega), H 119 (by omega), H 120 (by omega), H 121 (by omega)]
  exact h
theorem kP {μ ν : zMu} (H : ∀ k, k = 8 ∨ k = 9 ∨ k = 122 ∨ k = 123 → ν k = μ k) (h : rP μ) : rP ν := by
  unfold rP at h ⊢
  rw [H 8 (by omega), H 9 (by omega), H 122 (by omega), H 123 (by omega)]
  exact h
theorem kL {μ ν : zMu} {nr : Nat} {rf rt : Nat → Nat} (H : ∀ k, (11 ≤ k ∧ k ≤ 14) ∨ (124 ≤ k ∧ k ≤ 127) → ν k = μ k) (h : rL μ nr rf rt) : rL ν nr rf rt := by
  unfold rL at h ⊢
  rw [H 11 (by omega), H 12 (by omega), H 13 (by omega), H 14 (by omega), H 124 (by omega), H 125 (by omega), H 126 (by omega), H 127 (by omega)]
  exact h
theorem kY {μ ν : zMu} (H : ∀ k, (25 ≤ k ∧ k ≤ 32) ∨ k = 135 ∨ k = 136 → ν k = μ k) (h : rY μ) : rY ν := by
  intro q hq
  rw [H (25 + 2 * q) (by omega), H (26 + 2 * q) (by omega), H 135 (by omega), H 136 (by omega)]
  exact h q hq
theorem kI {μ ν : zMu} (H : ∀ k, (22 ≤ k ∧ k ≤ 24) ∨ (137 ≤ k ∧ k ≤ 139) → ν k = μ k) (h : rI μ) : rI ν := by
  unfold rI at h ⊢
  rw [H 22 (by omega), H 23 (by omega), H 24 (by omega), H 137 (by omega), H 138 (by omega), H 139 (by omega)]
  exact h
theorem kB {μ ν : zMu} {nc : Nat} (H : ν 130 = μ 130) (h : rB μ nc) : rB ν nc := by
  unfold rB at h ⊢
  rw [H]
  exact h
theorem kF {μ ν : zMu} {nc ni : Nat} (H : ∀ c, c < 12 → ν (39 + 7 * c) = μ (39 + 7 * c)) (H2 : ν 140 = μ 140) (h : rF μ nc ni) : rF ν nc ni := by
  intro c hc i hi
  rw [H c hc, H2]
  exact h c hc i hi
theorem kK {μ ν : zMu} {nc : Nat} (hn : nc ≤ 12) (H : ∀ k, 33 ≤ k → k ≤ 116 → ν k = μ k) (H2 : ∀ k, 128 ≤ k → k ≤ 134 → ν k = μ k) (h : rK μ nc) : rK ν nc := by
  intro c hc
  obtain ⟨k1, k2, k3⟩ := h c hc
  refine ⟨?_, fun b hb => ?_, fun p hp => ?_⟩
  · rw [H (33 + 7 * c) (by omega) (by omega), H2 128 (by omega) (by omega)]
    exact k1
  · rw [H (38 + 7 * c) (by omega) (by omega), H2 129 (by omega) (by omega)]
    exact k2 b hb
  · have h9 := k3 p hp
    unfold rQ at h9 ⊢
    rw [H (36 + 7 * c) (by omega) (by omega), H (37 + 7 * c) (by omega) (by omega), H (34 + 7 * c) (by omega) (by omega), H (35 + 7 * c) (by omega) (by omega), H2 133 (by omega) (by omega), H2 134 (by omega) (by omega), H2 130 (by omega) (by omega), H2 131 (by omega) (by omega), H2 132 (by omega) (by omega)]
    exact h9
theorem kA {μ ν : zMu} {nc : Nat} (hn : nc ≤ 12) (H : ∀ k, 33 ≤ k → k ≤ 116 → ν k = μ k) (h : rA μ nc) : rA ν nc := by
  intro p hp
  obtain ⟨f, hf⟩ := h p hp
  refine ⟨f, fun c hc j hj e => hf c hc j hj ?_⟩
  rw [H (37 + 7 * c) (by omega) (by omega)] at e
  exact e
/-- hand -/
theorem za_hand {E : Nat × (Nat → Int32)} {μ : zMu} {x1 x2 x3 x4 x5 : Int32} (hI : zInv μ) : zAll zInv E μ x1 x2 x3 x4 x5 4 := by
  obtain ⟨nc, nr, np, ni, rf, rt, hN, hC, hP, hL, hY, hI', hB, hF, hK, hA⟩ := id hI
  rcases zrg_cases 4 (by omega) x1 with hb | ⟨q, hq, rfl⟩
  · right; left
    exact ⟨_, _, fun g => ctx_X7_hand hb, fun g => ctx_X8_hand hb, zu_s, zInv_t hI⟩
  · by_cases hz : zin x2 (nI 9)
    · left
      refine ⟨zu μ (25 + 2 * q) 0 x2, zu (zu (zu μ (25 + 2 * q) 0 x2) 117 0 (nI 0)) 135 q x2, μ (25 + 2 * q) 0, fun g => (by have h := ct_X7_hand (E := E) (μ := μ) (g := g) hq (h := x2); rw [if_neg (fun q => q hz)] at h; exact h), fun g => ?_, ?_, ?_⟩
      · have h := ct_X8_hand (E := E) (μ := zu μ (25 + 2 * q) 0 x2) (g := g) hq (h := x2)
        rw [if_neg (fun q => q hz), zu_r (show 135 ≠ 25 + 2 * q by omega), ← (hY q hq).1] at h
        exact h
      · exact (zu_o (by decide)).trans zu_s
      · have o : ∀ k, k ≠ 135 → k ≠ 117 → k ≠ 25 + 2 * q → zu (zu (zu μ (25 + 2 * q) 0 x2) 117 0 (nI 0)) 135 q x2 k = μ k := fun k h1 h2 h3 => by rw [zu_r h1, zu_r h2, zu_r h3]
        refine ⟨nc, nr, np, ni, rf, rt, kN (fun k hk j hj => ?_) hN, kC (fun k hk => o k (by omega) (by omega) (by omega)) hC, kP (fun k hk => o k (by omega) (by omega) (by omega)) hP, kL (fun k hk => o k (by omega) (by omega) (by omega)) hL, ?_, kI (fun k hk => o k (by omega) (by omega) (by omega)) hI', kB (o 130 (by omega) (by omega) (by omega)) hB, kF (fun c hc => o _ (by omega) (by omega) (by omega)) (o 140 (by omega) (by omega) (by omega)) hF, kK hN.1.2.2 (fun k h1 h2 => o k (by omega) (by omega) (by omega)) (fun k h1 h2 => o k (by omega) (by omega) (by omega)) hK, kA hN.1.2.2 (fun k h1 h2 => o k (by omega) (by omega) (by omega)) hA⟩
        · rw [zu_o (by omega)]
          by_cases h9 : k = 117
          · rw [h9, zu_o2 (by omega), zu_o (by omega)]
          · rw [zu_o h9, zu_o (by omega)]
        · intro q2 hq2
          obtain ⟨y1, y2, y3⟩ := hY q2 hq2
          rw [o (26 + 2 * q2) (by omega) (by omega) (by omega), o 136 (by omega) (by omega) (by omega)]
          refine ⟨?_, ?_, y3⟩
          · by_cases e : q2 = q
            · subst e
              rw [zu_o (by omega), zu_o (by omega), zu_s, zu_s]
            · rw [zu_o2 e, zu_o (by omega), zu_o (by omega), zu_o (by omega), zu_o (by omega), zu_o (by omega)]
              exact y1
          · by_cases e : q2 = q
            · subst e
              rw [zu_s]
              exact hz
            · rw [zu_o2 e, zu_o (by omega), zu_o (by omega)]
              exact y2
    · right; right
      refine ⟨_, _, fun g => (by have h := ct_X7_hand (E := E) (μ := μ) (g := g) hq (h := x2); rw [if_pos hz] at h; exact h), fun g => (by have h := ct_X8_hand (E := E) (μ := μ) (g := g) hq (h := x2); rw [if_pos hz] at h; exact h), zu_s, zInv_t hI⟩
