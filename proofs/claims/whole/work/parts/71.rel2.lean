/-! what joins them is kept where its cells are -/
abbrev zSame (μ ν : zMu) : Prop := ∀ k, k ≠ 117 → (k < 15 ∨ 18 < k) → k < 141 → ν k = μ k
theorem rQ_c {μ ν : zMu} {nc c p : Nat} (H : zSame μ ν) (hc : c < 12) (h : rQ μ nc c p) : rQ ν nc c p := by
  unfold rQ at h ⊢
  rw [H (36 + 7 * c) (by omega) (by omega) (by omega), H (37 + 7 * c) (by omega) (by omega) (by omega), H (34 + 7 * c) (by omega) (by omega) (by omega), H (35 + 7 * c) (by omega) (by omega) (by omega), H 133 (by omega) (by omega) (by omega), H 134 (by omega) (by omega) (by omega), H 130 (by omega) (by omega) (by omega), H 131 (by omega) (by omega) (by omega), H 132 (by omega) (by omega) (by omega)]
  exact h
theorem zInv_c {μ ν : zMu} (H : zSame μ ν) (h5 : ν 117 5 = μ 117 5) (h8 : ν 117 8 = μ 117 8) (h13 : ν 117 13 = μ 117 13) (h23 : ν 117 23 = μ 117 23) (hI : zInv μ) : zInv ν := by
  obtain ⟨nc, nr, np, ni, rf, rt, hN, hC, hP, hL, hY, hI, hB, hF, hK, hA⟩ := hI
  have h12 := hN.1.2.2
  refine ⟨nc, nr, np, ni, rf, rt, ?_, ?_, ?_, ?_, ?_, ?_, ?_, ?_, ?_, ?_⟩
  · unfold rN at hN ⊢
    rw [H 1 (by omega) (by omega) (by omega), H 10 (by omega) (by omega) (by omega), H 7 (by omega) (by omega) (by omega), H 21 (by omega) (by omega) (by omega), h5, h8, h13, h23]
    exact hN
  · unfold rC at hC ⊢
    rw [H 3 (by omega) (by omega) (by omega), H 4 (by omega) (by omega) (by omega), H 5 (by omega) (by omega) (by omega), H 6 (by omega) (by omega) (by omega), H 118 (by omega) (by omega) (by omega), H 119 (by omega) (by omega) (by omega), H 120 (by omega) (by omega) (by omega), H 121 (by omega) (by omega) (by omega)]
    exact hC
  · unfold rP at hP ⊢
    rw [H 8 (by omega) (by omega) (by omega), H 9 (by omega) (by omega) (by omega), H 122 (by omega) (by omega) (by omega), H 123 (by omega) (by omega) (by omega)]
    exact hP
  · unfold rL at hL ⊢
    rw [H 11 (by omega) (by omega) (by omega), H 12 (by omega) (by omega) (by omega), H 13 (by omega) (by omega) (by omega), H 14 (by omega) (by omega) (by omega), H 124 (by omega) (by omega) (by omega), H 125 (by omega) (by omega) (by omega), H 126 (by omega) (by omega) (by omega), H 127 (by omega) (by omega) (by omega)]
    exact hL
  · intro q hq
    rw [H (25 + 2 * q) (by omega) (by omega) (by omega), H (26 + 2 * q) (by omega) (by omega) (by omega), H 135 (by omega) (by omega) (by omega), H 136 (by omega) (by omega) (by omega)]
    exact hY q hq
  · unfold rI at hI ⊢
    rw [H 22 (by omega) (by omega) (by omega), H 23 (by omega) (by omega) (by omega), H 24 (by omega) (by omega) (by omega), H 137 (by omega) (by omega) (by omega), H 138 (by omega) (by omega) (by omega), H 139 (by omega) (by omega) (by omega)]
    exact hI
  · unfold rB at hB ⊢
    rw [H 130 (by omega) (by omega) (by omega)]
    exact hB
  · intro c hc i hi
    rw [H (39 + 7 * c) (by omega) (by omega) (by omega), H 140 (by omega) (by omega) (by omega)]
    exact hF c hc i hi
  · intro c hc
    obtain ⟨k1, k2, k3⟩ := hK c hc
    refine ⟨?_, fun b hb => ?_, fun p hp => rQ_c H (by omega) (k3 p hp)⟩
    · rw [H (33 + 7 * c) (by omega) (by omega) (by omega), H 128 (by omega) (by omega) (by omega)]
      exact k1
    · rw [H (38 + 7 * c) (by omega) (by omega) (by omega), H 129 (by omega) (by omega) (by omega)]
      exact k2 b hb
  · intro p hp
    obtain ⟨h, hh⟩ := hA p hp
    refine ⟨h, fun c hc j hj e => hh c hc j hj ?_⟩
    rw [H (37 + 7 * c) (by omega) (by omega) (by omega)] at e
    exact e
/-- refused: only that is written -/
theorem zInv_t {μ : zMu} {x : Int32} (h : zInv μ) : zInv (zu μ 117 0 x) :=
  zInv_c (fun k h1 _ _ => zu_r h1) (zu_o2 (by decide)) (zu_o2 (by decide)) (zu_o2 (by decide)) (zu_o2 (by decide)) h
theorem nI_nonneg {x : Int32} (h : ¬ x < 0) : ∃ j, j < 2147483648 ∧ x = nI j := by
  obtain ⟨j, hj, e⟩ := nI_of h
  exact ⟨j, hj, e⟩
theorem za_told1 {E : Nat × (Nat → Int32)} {μ : zMu} {x1 x2 x3 x4 x5 : Int32} (hI : zInv μ) : zAll zInv E μ x1 x2 x3 x4 x5 13 := by
  obtain ⟨nc, nr, np, ni, rf, rt, hN, hC, hP, hL, hY, hI', hB, hF, hK, hA⟩ := id hI
  refine ⟨fun _ => ?_, fun _ => ?_⟩
  · rcases zrg_cases nr (by have := hN.2.1.2.2; omega) x1 with hb | ⟨i, hi, rfl⟩
    · right
      exact ⟨_, _, fun g => ctx_X7_told hN.2.1.1 hN.2.1.2.2 hb, fun g => ctx_X8_told hN.2.1.2.1 hN.2.1.2.2 hb, zu_s, zInv_t hI⟩
    · left
      refine ⟨_, _, _, fun g => ct_X7_told0 hN.2.1.1 hN.2.1.2.2 hi, fun g => ?_, zu_s, zInv_t hI⟩
      rw [(hL i hi).2.2.1.2]
      exact ct_X8_told0 hN.2.1.2.1 hN.2.1.2.2 hi
  · rcases zrg_cases nr (by have := hN.2.1.2.2; omega) x1 with hb | ⟨i, hi, rfl⟩
    · right
      exact ⟨_, _, fun g => ctx_X7_told hN.2.1.1 hN.2.1.2.2 hb, fun g => ctx_X8_told hN.2.1.2.1 hN.2.1.2.2 hb, zu_s, zInv_t hI⟩
    · left
      refine ⟨_, _, _, fun g => ct_X7_told1 hN.2.1.1 hN.2.1.2.2 hi, fun g => ?_, zu_s, zInv_t hI⟩
      rw [(hL i hi).2.2.1.1]
      exact ct_X8_told1 hN.2.1.2.1 hN.2.1.2.2 hi
