/-! what joins class and law, kept where its own cells are -/
section ZKEEP
variable {μ μ' ν ν' : zMu} {nc nr ni nc' ni' : Nat} {rf rt : Nat → Nat}
theorem iv_mk (hI : iv μ ν nc nr ni rf rt) (H1 : ∀ k, k ≠ 1 → k < 15 → μ' k = μ k) (H4 : ν' 4 = ν 4) (H9 : ν' 9 = ν 9) (h1 : μ' 1 7 = nI nc') (h21 : μ' 21 3 = nI ni') (hn : nc' ≤ 5) (hi : ni' ≤ 4) (hY : iY μ' ν') (hB : iB μ' ν' nc' ni') (hK : iK μ' ν' nc') (hA : iA μ' nc') : iv μ' ν' nc' nr ni' rf rt := by
  obtain ⟨hN, hT, hL, -, -, -, -⟩ := hI
  refine ⟨⟨⟨h1, hn⟩, ⟨by rw [H1 10 (by omega) (by omega)]; exact hN.2.1.1, hN.2.1.2⟩, h21, hi⟩, ?_, ?_, hY, hB, hK, hA⟩
  · unfold iT at hT ⊢
    rw [H1 3 (by omega) (by omega), H1 4 (by omega) (by omega), H1 5 (by omega) (by omega), H4]
    exact hT
  · unfold iL at hL ⊢
    rw [H1 11 (by omega) (by omega), H1 12 (by omega) (by omega), H1 13 (by omega) (by omega), H1 14 (by omega) (by omega), H9]
    exact hL
theorem jY (H : ∀ k, 25 ≤ k → k ≤ 32 → μ' k = μ k) (H7 : ν' 7 = ν 7) (H8 : ν' 8 = ν 8) (h : iY μ ν) : iY μ' ν' := by
  intro q hq
  rw [H (25 + 2 * q) (by omega) (by omega), H (26 + 2 * q) (by omega) (by omega), H7, H8]
  exact h q hq
theorem jB (H : ∀ c, c < 12 → μ' (39 + 7 * c) = μ (39 + 7 * c)) (H5 : ν' 5 = ν 5) (h : iB μ ν nc ni) : iB μ' ν' nc ni := by
  obtain ⟨h1, h2⟩ := h
  refine ⟨fun k hk => ?_, fun c hc i hi => ?_⟩
  · obtain ⟨v, hv, e, h3⟩ := h1 k hk
    rw [H5]
    exact ⟨v, hv, e, fun c hc => by rw [H c (by omega)]; exact h3 c hc⟩
  · rw [H c hc]
    exact h2 c hc i hi
theorem jK (H : ∀ k, 33 ≤ k → k ≤ 116 → (∀ c, c < 12 → k ≠ 39 + 7 * c) → μ' k = μ k) (hn : nc ≤ 5) (H0 : ν' 0 = ν 0) (H1 : ν' 1 = ν 1) (H2 : ν' 2 = ν 2) (H3 : ν' 3 = ν 3) (H6 : ν' 6 = ν 6) (h : iK μ ν nc) : iK μ' ν' nc := by
  intro c hc
  have e : ∀ r, r < 6 → μ' (33 + r + 7 * c) = μ (33 + r + 7 * c) := fun r hr => H _ (by omega) (by omega) (fun d hd => by omega)
  have e0 := e 0 (by omega)
  have e1 := e 1 (by omega)
  have e2 := e 2 (by omega)
  have e3 := e 3 (by omega)
  have e4 := e 4 (by omega)
  have e5 := e 5 (by omega)
  obtain ⟨k1, k2, k3, k4⟩ := h c hc
  refine ⟨?_, ?_, fun p hp => ?_, fun p hp1 hp2 => ?_⟩
  · rw [e0, H6]; exact k1
  · rw [e5]; exact k2
  · have h9 := k3 p hp
    unfold iP at h9 ⊢
    rw [e1, e2, e3, e4, H0, H1, H2, H3]
    exact h9
  · have h9 := k4 p hp1 hp2
    unfold iO at h9 ⊢
    rw [e1, e2, e3, e4]
    exact h9
theorem jA (hn : nc ≤ 5) (H : ∀ c, c < 5 → μ' (37 + 7 * c) = μ (37 + 7 * c)) (h : iA μ nc) : iA μ' nc := by
  intro p hp
  obtain ⟨f, hf⟩ := h p hp
  refine ⟨f, fun c hc j hj e => hf c hc j hj ?_⟩
  rw [H c (by omega)] at e
  exact e
/-- sources that have changed are gone -/
theorem jA_s (h : ∀ c, c < nc → ∀ p, p < 24 → μ' (37 + 7 * c) p = μ (37 + 7 * c) p ∨ μ' (37 + 7 * c) p = -1) (hA : iA μ nc) : iA μ' nc := by
  intro p hp
  obtain ⟨f, hf⟩ := hA p hp
  refine ⟨f, fun c hc j hj e => ?_⟩
  rcases h c hc p hp with h9 | h9
  · exact hf c hc j hj (h9.symm.trans e)
  · exact absurd (h9.symm.trans e) (znm1 (by omega))
theorem iP_v {c p : Nat} (hn : nc ≤ nc') (e1 : μ' (34 + 7 * c) p = μ (34 + 7 * c) p) (e2 : μ' (35 + 7 * c) p = μ (35 + 7 * c) p) (e3 : μ' (36 + 7 * c) p = μ (36 + 7 * c) p) (e4 : μ' (37 + 7 * c) p = μ (37 + 7 * c) p) (e : ∀ b, b < 4 → ν' b (10 * c + p) = ν b (10 * c + p)) (h : iP μ ν nc c p) : iP μ' ν' nc' c p := by
  unfold iP at h ⊢
  rw [e1, e2, e3, e4, e 0 (by omega), e 1 (by omega), e 2 (by omega), e 3 (by omega)]
  refine ⟨h.1, ?_⟩
  rcases h.2 with h2 | ⟨h2, h3⟩
  · exact Or.inl h2
  · refine Or.inr ⟨?_, h3⟩
    rcases h2 with h2 | ⟨j, hj, h2⟩
    · exact Or.inl h2
    · exact Or.inr ⟨j, by omega, h2⟩
/-- the points of one chart have changed -/
theorem jK_row {a : Nat} (hn5 : nc ≤ 5) (ha : a < nc) (o1 : ∀ k j, 33 ≤ k → k ≤ 68 → ¬ (34 + 7 * a ≤ k ∧ k ≤ 37 + 7 * a) → (∀ c, c < 12 → k ≠ 39 + 7 * c) → μ' k j = μ k j) (o2 : ∀ b, b < 4 → ∀ j, ¬ (10 * a ≤ j ∧ j < 10 * a + 10) → ν' b j = ν b j) (o6 : ν' 6 = ν 6) (hP : ∀ p, p < 10 → iP μ' ν' nc a p) (hO : ∀ p, 10 ≤ p → p < 24 → iO μ' a p) (h : iK μ ν nc) : iK μ' ν' nc := by
  intro c hc
  obtain ⟨k1, k2, k3, k4⟩ := h c hc
  refine ⟨?_, ?_, fun p hp => ?_, fun p hp1 hp2 => ?_⟩
  · rw [o1 (33 + 7 * c) 0 (by omega) (by omega) (by omega) (fun d hd => by omega), o6]; exact k1
  · rw [o1 (38 + 7 * c) 0 (by omega) (by omega) (by omega) (fun d hd => by omega)]; exact k2
  · by_cases e : c = a
    · subst e; exact hP p hp
    · refine iP_v (Nat.le_refl _) (o1 _ p (by omega) (by omega) (by omega) (fun d hd => by omega)) (o1 _ p (by omega) (by omega) (by omega) (fun d hd => by omega)) (o1 _ p (by omega) (by omega) (by omega) (fun d hd => by omega)) (o1 _ p (by omega) (by omega) (by omega) (fun d hd => by omega)) (fun b hb => o2 b hb _ (by omega)) (k3 p hp)
  · by_cases e : c = a
    · subst e; exact hO p hp1 hp2
    · have h9 := k4 p hp1 hp2
      unfold iO at h9 ⊢
      rw [o1 (36 + 7 * c) p (by omega) (by omega) (by omega) (fun d hd => by omega), o1 (34 + 7 * c) p (by omega) (by omega) (by omega) (fun d hd => by omega), o1 (35 + 7 * c) p (by omega) (by omega) (by omega) (fun d hd => by omega), o1 (37 + 7 * c) p (by omega) (by omega) (by omega) (fun d hd => by omega)]
      exact h9
/-- the whole of it, where the points of one chart have changed -/
theorem iv_row {a : Nat} (ha : a < nc) (o1 : ∀ k j, ¬ (34 + 7 * a ≤ k ∧ k ≤ 37 + 7 * a) → μ' k j = μ k j) (o2 : ∀ b j, ¬ (b < 4 ∧ 10 * a ≤ j ∧ j < 10 * a + 10) → ν' b j = ν b j) (hP : ∀ p, p < 10 → iP μ' ν' nc a p) (hO : ∀ p, 10 ≤ p → p < 24 → iO μ' a p) (hA : iA μ' nc) (hI : iv μ ν nc nr ni rf rt) : iv μ' ν' nc nr ni rf rt := by
  obtain ⟨⟨⟨hnc, hn5⟩, hN2, hN3⟩, hT, hL, hY, hB, hK, hA0⟩ := id hI
  have e1 : ∀ k, ¬ (34 + 7 * a ≤ k ∧ k ≤ 37 + 7 * a) → μ' k = μ k := fun k hk => funext fun j => o1 k j hk
  have e2 : ∀ b, ¬ b < 4 → ν' b = ν b := fun b hb => funext fun j => o2 b j (by omega)
  exact iv_mk hI (fun k h1 h2 => e1 k (by omega)) (e2 4 (by omega)) (e2 9 (by omega)) (by rw [e1 1 (by omega)]; exact hnc) (by rw [e1 21 (by omega)]; exact hN3.1) hn5 hN3.2 (jY (fun k h1 h2 => e1 k (by omega)) (e2 7 (by omega)) (e2 8 (by omega)) hY) (jB (fun c hc => e1 _ (by omega)) (e2 5 (by omega)) hB)
    (jK_row hn5 ha (fun k j h1 h2 h3 h4 => o1 k j h3) (fun b hb j hj => o2 b j (by omega)) (e2 6 (by omega)) hP hO hK) hA
end ZKEEP
theorem zin_rb {v : Int32} {e : Nat} (he : e < 2147483648) (h : rb e v) : zin v (nI e) := by
  have h0 : rb e v := h
  unfold rb at h0
  refine ⟨fun q => ?_, fun q => ?_⟩
  · have h1 := Int32.lt_iff_toInt_lt.mp q
    rw [Int32.toInt_neg, nI_toInt he, bmod32 (by omega) (by omega)] at h1
    omega
  · have h1 := Int32.lt_iff_toInt_lt.mp q
    rw [nI_toInt he] at h1
    omega
theorem rb_nI {n : Nat} (h : n < 2147483648) : rb n (nI n) := by
  unfold rb
  rw [nI_toInt h]
  omega
/-- a drawn number about 0 -/
theorem rb_low {k e n : Nat} (hk : k < n) (h : n ≤ e + e + 1) (hn : n < 1000000) (he : e < 1000000) : rb e (nI k - nI e) := by
  unfold rb
  rw [Int32.toInt_sub, nI_toInt (by omega), nI_toInt (by omega), bmod32 (by omega) (by omega)]
  omega
