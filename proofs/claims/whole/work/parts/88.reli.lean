/-! fit -/
theorem zab_sz (x : Int32) : zab x = zsz x := by
  unfold zab zsz
  by_cases h : 0 ≤ x
  · rw [if_pos h, if_neg (Int32.not_lt.mpr h)]
  · rw [if_neg h, if_pos (Int32.not_le.mp h), Int32.zero_sub]
theorem zuu {M : zMu} {a b x y : Int32} : zu (zu (zu (zu M 117 32 a) 117 33 b) 117 32 x) 117 33 y = zu (zu M 117 32 x) 117 33 y := by
  funext k j
  by_cases e1 : j = 33
  · by_cases e2 : k = 117
    · subst e1 e2
      rw [zu_s, zu_s]
    · rw [zu_o e2, zu_o e2, zu_o e2, zu_o e2, zu_o e2, zu_o e2]
  · by_cases e3 : j = 32
    · by_cases e2 : k = 117
      · subst e3 e2
        rw [zu_o2 (by omega), zu_s, zu_o2 (by omega), zu_s]
      · rw [zu_o e2, zu_o e2, zu_o e2, zu_o e2, zu_o e2, zu_o e2]
    · rw [zu_o2 e1, zu_o2 e3, zu_o2 e1, zu_o2 e3, zu_o2 e1, zu_o2 e3]
theorem cshf_n {μ : zMu} {c a t : Nat} {q : Nat} : ∀ n, ∃ m, m ≤ n ∧ (zit (cshf μ c a t) q n (nI 0, nI 0)).1 = nI m
  | 0 => ⟨0, Nat.le_refl _, rfl⟩
  | n + 1 => by
    obtain ⟨m, h1, h2⟩ := cshf_n (μ := μ) (c := c) (a := a) (t := t) (q := q) n
    rw [zit_s, cshf]
    by_cases hk : zkn μ c (q + n)
    · rw [if_pos hk]
      refine ⟨m + 1, by omega, ?_⟩
      dsimp only
      rw [h2]
      exact nI_1 m
    · rw [if_neg hk]
      exact ⟨m, by omega, h2⟩
theorem dsf_eq {μ : zMu} {nc c a : Nat} {x : Int32} (hc : c < 12) (hC : rC μ) (h : ∀ p, p < 24 → rQ μ nc c p) : ∀ n, a + n ≤ 24 →
    (zit (cshf μ c 35 4) a n (nI 0, nI 0)).1 = (zit (cshf μ c 34 3) a n (nI 0, nI 0)).1 ∧
    zit (dsf c) a n (nI 0, zu (zu (zu μ 117 0 x) 117 32 (nI 0)) 117 33 (nI 0)) = ((zit (cshf μ c 34 3) a n (nI 0, nI 0)).1, zu (zu (zu μ 117 0 x) 117 32 (zit (cshf μ c 34 3) a n (nI 0, nI 0)).2) 117 33 (zit (cshf μ c 35 4) a n (nI 0, nI 0)).2)
  | 0, _ => ⟨rfl, rfl⟩
  | n + 1, hn => by
    obtain ⟨i1, i2⟩ := dsf_eq (a := a) (x := x) hc hC h n (by omega)
    have h9 := h (a + n) (by omega)
    have k1 := zkn_iff hc h9
    obtain ⟨⟨c1, c2, -, -⟩, -⟩ := hC (a + n) (by omega)
    rw [zit_s, zit_s, zit_s, i2]
    generalize zit (cshf μ c 34 3) a n (nI 0, nI 0) = s at *
    generalize zit (cshf μ c 35 4) a n (nI 0, nI 0) = t at *
    obtain ⟨s1, s2⟩ := s
    obtain ⟨t1, t2⟩ := t
    have e1 : t1 = s1 := i1
    subst e1
    rw [dsf]
    dsimp only
    have eM : zu (zu (zu μ 117 0 x) 117 32 s2) 117 33 t2 130 (24 * c + (a + n)) = μ 130 (24 * c + (a + n)) := by rw [zu_o (by omega), zu_o (by omega), zu_o (by omega)]
    rw [cshf, cshf]
    rcases h9.2.2 with ⟨a0, ⟨a1, a2⟩, -⟩ | ⟨a0, -⟩
    · have hk := k1.mpr a0
      have a9 : ¬ zu (zu (zu μ 117 0 x) 117 32 s2) 117 33 t2 130 (24 * c + (a + n)) = 0 := by rw [eM]; exact a0
      rw [if_neg a9, if_pos hk, if_pos hk]
      refine ⟨rfl, ?_⟩
      dsimp only
      rw [zuu, zu_o2 (show 32 ≠ 33 by omega), zu_s, zu_o (show 131 ≠ 117 by omega), zu_o (show 131 ≠ 117 by omega), zu_o (show 131 ≠ 117 by omega), zu_o (show 118 ≠ 117 by omega), zu_o (show 118 ≠ 117 by omega), zu_o (show 118 ≠ 117 by omega), zu_s, zu_o (show 132 ≠ 117 by omega), zu_o (show 132 ≠ 117 by omega), zu_o (show 132 ≠ 117 by omega), zu_o (show 119 ≠ 117 by omega), zu_o (show 119 ≠ 117 by omega), zu_o (show 119 ≠ 117 by omega)]
      unfold zer
      rw [a1, a2, c1, c2]
    · have hk : ¬ zkn μ c (a + n) := fun q => k1.mp q a0
      have a9 : zu (zu (zu μ 117 0 x) 117 32 s2) 117 33 t2 130 (24 * c + (a + n)) = 0 := by rw [eM]; exact a0
      rw [if_pos a9, if_neg hk, if_neg hk]
      exact ⟨rfl, rfl⟩
theorem dshifts_eq {μ : zMu} {nc c b : Nat} {x : Int32} (hc : c < 12) (hb : b < 3) (hC : rC μ) (h : ∀ p, p < 24 → rQ μ nc c p) : dshifts c b (zu μ 117 0 x) = zu (zu (zu μ 117 0 x) 117 32 (cshift μ c b 34 3)) 117 33 (cshift μ c b 35 4) := by
  obtain ⟨e1, e2⟩ := dsf_eq (x := x) (a := b * 8) hc hC h 8 (by omega)
  obtain ⟨m, m1, m2⟩ := cshf_n (μ := μ) (c := c) (a := 34) (t := 3) (q := b * 8) 8
  have q0 : ∀ (s : Int32 × Int32), s.1 = nI m → zquo s = dqu (nI m) s.2 := fun s hs => by
    rw [zquo, dqu, hs]
    by_cases hm : m = 0
    · rw [if_pos ((z0l (by omega)).mpr hm), if_pos ((z0e (by omega)).mpr hm)]
    · rw [if_neg (fun q => hm ((z0l (by omega)).mp q)), if_neg (fun q => hm ((z0e (by omega)).mp q))]
  unfold dshifts
  have eD : dshift0 c b (zu μ 117 0 x) = (nI m, zu (zu (zu μ 117 0 x) 117 32 (zit (cshf μ c 34 3) (b * 8) 8 (nI 0, nI 0)).2) 117 33 (zit (cshf μ c 35 4) (b * 8) 8 (nI 0, nI 0)).2) := by
    unfold dshift0
    rw [Nat.mul_comm 8 b, e2, m2]
  rw [eD]
  dsimp only
  rw [zuu, zu_o2 (show 32 ≠ 33 by omega), zu_s, zu_s, cshift, cshift, q0 _ m2, q0 _ (e1.trans m2)]
theorem cres_eq {μ M : zMu} {nc c p : Nat} {X Y s : Int32} (hc : c < 12) (hp : p < 24) (hC : rC μ) (h : rQ μ nc c p) (hM : ∀ k, k ≠ 117 → M k = μ k) (h32 : M 117 32 = X) (h33 : M 117 33 = Y) : cres μ c X Y p s = dfi M c p s := by
  have k1 := zkn_iff hc h
  obtain ⟨⟨c1, c2, -, -⟩, -⟩ := hC p hp
  rw [cres, dfi, hM 130 (by omega), hM 131 (by omega), hM 132 (by omega), hM 118 (by omega), hM 119 (by omega), h32, h33]
  rcases h.2.2 with ⟨a0, ⟨a1, a2⟩, -⟩ | ⟨a0, -⟩
  · rw [if_neg a0, if_pos (k1.mpr a0), zab_sz, zab_sz, Int32.add_assoc]
    unfold zer
    rw [a1, a2, c1, c2]
  · rw [if_pos a0, if_neg (fun q => k1.mp q a0), add_0]
theorem za_fit {E : Nat × (Nat → Int32)} {μ : zMu} {x1 x2 x3 x4 x5 : Int32} (hI : zInv μ) : zAll zInv E μ x1 x2 x3 x4 x5 18 := by
  obtain ⟨nc, nr, np, ni, rf, rt, hN, hC, hP, hL, hY, hI', hB, hF, hK, hA⟩ := id hI
  have h12 := hN.1.2.2
  by_cases hb : zrg nc x1 ∧ zrg 3 x2
  · obtain ⟨c, hc, rfl⟩ := zrg_of hb.1 (by omega)
    obtain ⟨b, hb3, rfl⟩ := zrg_of hb.2 (by omega)
    rcases zrg_cases 3 (by omega) x3 with hw | ⟨w, hw, rfl⟩
    · right; right
      exact ⟨_, _, fun g => cta_X7_fit hN.1.1 h12 hc hb3 hw, fun g => cta_X8_fit hN.1.2.1 h12 hc hb3 hw, zu_s, zInv_t hI⟩
    · left
      have hQ := (hK c hc).2.2
      have eS := dshifts_eq (x := nI 0) (b := b) (show c < 12 by omega) hb3 hC hQ
      refine ⟨μ, dshifts c b (zu μ 117 0 (nI 0)), zfi μ c b w, fun g => ct_X7_fit hN.1.1 h12 hc hb3 hw, fun g => ?_, ?_, ?_⟩
      · have h := ct_X8_fit (E := E) (μ := μ) (g := g) hN.1.2.1 h12 hc hb3 hw
        have e : zfi8 (dshifts c b (zu μ 117 0 (nI 0))) c b w = zfi μ c b w := by
          rw [eS]
          have hws : w = 0 ∨ w = 1 ∨ w = 2 := by omega
          rcases hws with rfl | rfl | rfl
          · rw [zfi8, zfi, zu_o2 (by omega), zu_s]
          · rw [zfi8, zfi, zu_s]
          · show zit (dfi _ c) (8 * b) 8 (nI 0) = zit (cres μ c (cshift μ c b 34 3) (cshift μ c b 35 4)) (b * 8) 8 (nI 0)
            rw [Nat.mul_comm 8 b]
            exact (zit_congr 8 (fun i hi s => cres_eq (by omega) (by omega) hC (hQ _ (by omega)) (fun k hk => by rw [zu_r hk, zu_r hk, zu_r hk]) (by rw [zu_o2 (by omega), zu_s]) zu_s) (nI 0)).symm
        rw [e] at h
        exact h
      · rw [eS, zu_o2 (by omega), zu_o2 (by omega), zu_s]
      · rw [eS]
        exact zInv_c (fun k h1 _ _ => by rw [zu_r h1, zu_r h1, zu_r h1]) (by rw [zu_o2 (by omega), zu_o2 (by omega), zu_o2 (by omega)]) (by rw [zu_o2 (by omega), zu_o2 (by omega), zu_o2 (by omega)]) (by rw [zu_o2 (by omega), zu_o2 (by omega), zu_o2 (by omega)]) (by rw [zu_o2 (by omega), zu_o2 (by omega), zu_o2 (by omega)]) hI
  · right; left
    exact ⟨_, _, fun g => ctx_X7_fit hN.1.1 h12 hb, fun g => ctx_X8_fit hN.1.2.1 h12 hb, zu_s, zInv_t hI⟩
/-! chain -/
theorem zlk {μ : zMu} {nc j p : Nat} (h : rQ μ nc j p) : znx μ j p = μ (37 + 7 * j) p ∧ (μ (37 + 7 * j) p = -1 ∨ ∃ i, i < nc ∧ μ (37 + 7 * j) p = nI i) := by
  obtain ⟨-, h2, h3⟩ := h
  rcases h3 with ⟨a0, -, -, a3⟩ | ⟨a0, -, -, a3⟩
  · exact ⟨by rw [znx, if_neg a0, h2], a3⟩
  · exact ⟨by rw [znx, if_pos a0, a3], Or.inl a3⟩
theorem zlks_of {μ : zMu} {nc p : Nat} (hn : nc ≤ 12) (hp : p < 24) (hB : rB μ nc) (hK : rK μ nc) : zlks μ p := by
  intro j hj
  by_cases h : j < nc
  · obtain ⟨e1, e2⟩ := zlk ((hK j h).2.2 p hp)
    rw [e1]
    rcases e2 with e | ⟨i, hi, e⟩
    · exact Or.inl e
    · exact Or.inr ⟨i, by omega, e⟩
  · exact Or.inl (by rw [znx, if_pos ((hB (24 * j + p) (by omega)).2 (by omega))])
theorem rA_b {μ : zMu} {nc p : Nat} (hA : rA μ nc) (hn : nc ≤ 12) (hp : p < 24) : ∃ g : Nat → Nat, (∀ c, c < nc → g c < 12) ∧ ∀ c, c < nc → ∀ j, j < nc → μ (37 + 7 * c) p = nI j → g j < g c := by
  obtain ⟨h, hh⟩ := hA p hp
  obtain ⟨g, g1, g2⟩ := rank_b h nc
  exact ⟨g, fun c hc => by have := g1 c hc; omega, fun c hc j hj e => g2 j c hj (hh c hc j (by omega) e).2⟩
theorem zsd {μ : zMu} {nc p : Nat} {l : Int32} (hn : nc ≤ 12) (hp : p < 24) (hK : rK μ nc) (hl : l = -1 ∨ ∃ j, j < nc ∧ l = nI j) : zsrc μ nc p l = dnx μ p l ∧ (dnx μ p l = -1 ∨ ∃ j, j < nc ∧ dnx μ p l = nI j) := by
  rcases hl with rfl | ⟨j, hj, rfl⟩
  · rw [zsrc_m, dnx, if_pos rfl]
    exact ⟨rfl, Or.inl rfl⟩
  · obtain ⟨e1, e2⟩ := zlk ((hK j hj).2.2 p hp)
    rw [zsrc_n hj hn, dnx_n (by omega), e1]
    exact ⟨rfl, e2⟩
theorem zchain {μ : zMu} {nc c p : Nat} {g : Nat → Nat} (hn : nc ≤ 12) (hc : c < nc) (hp : p < 24) (hK : rK μ nc) (hg : ∀ c, c < nc → ∀ j, j < nc → μ (37 + 7 * c) p = nI j → g j < g c) : ∀ k, zit (fun _ l => zsrc μ nc p l) 0 k (nI c) = zit (fun _ l => dnx μ p l) 0 k (nI c) ∧
    (zit (fun _ l => dnx μ p l) 0 k (nI c) = -1 ∨ ∃ j, j < nc ∧ zit (fun _ l => dnx μ p l) 0 k (nI c) = nI j ∧ g j + k ≤ g c)
  | 0 => ⟨rfl, Or.inr ⟨c, hc, rfl, Nat.le_refl _⟩⟩
  | k + 1 => by
    obtain ⟨i1, i2⟩ := zchain hn hc hp hK hg k
    rw [zit_s, zit_s, i1]
    try dsimp only
    have h9 := zsd (l := zit (fun _ l => dnx μ p l) 0 k (nI c)) hn hp hK (i2.elim Or.inl (fun ⟨j, hj, e, _⟩ => Or.inr ⟨j, hj, e⟩))
    refine ⟨h9.1, ?_⟩
    rcases i2 with e | ⟨j, hj, e, hk⟩
    · rw [e, dnx, if_pos rfl]
      exact Or.inl rfl
    · rw [e, dnx_n (by omega)]
      obtain ⟨e1, e2⟩ := zlk ((hK j hj).2.2 p hp)
      rw [e1]
      rcases e2 with e3 | ⟨i, hi, e3⟩
      · exact Or.inl e3
      · have := hg j hj i hi e3
        exact Or.inr ⟨i, hi, e3, by omega⟩
theorem dnx_m {μ : zMu} {p : Nat} : ∀ k, zit (fun _ l => dnx μ p l) 0 k (-1) = -1
  | 0 => rfl
  | k + 1 => by
    rw [zit_s, dnx_m k]
    try dsimp only
    rw [dnx, if_pos rfl]
theorem zchn_eq {μ : zMu} {nc c p k : Nat} (hn : nc ≤ 12) (hc : c < nc) (hp : p < 24) (hK : rK μ nc) (hA : rA μ nc) : zchn μ nc c p k = zit (fun _ l => dnx μ p l) 0 k (dl0 μ c p) := by
  have k1 := zkn_iff (by omega) ((hK c hc).2.2 p hp)
  obtain ⟨g, g1, g2⟩ := rA_b hA hn hp
  obtain ⟨e1, e2⟩ := zchain hn hc hp hK g2 k
  rw [zchn]
  by_cases h0 : μ 130 (24 * c + p) = 0
  · have hh : 12 ≤ k ∨ ¬ zkn μ c p := Or.inr (fun q => k1.mp q h0)
    rw [if_pos hh, dl0, if_pos h0, dnx_m]
  · rw [dl0, if_neg h0]
    by_cases hk : 12 ≤ k
    · have hh : 12 ≤ k ∨ ¬ zkn μ c p := Or.inl hk
      rw [if_pos hh]
      rcases e2 with e | ⟨j, hj, e, hk2⟩
      · exact e.symm
      · have := g1 c hc
        omega
    · have hh : ¬ (12 ≤ k ∨ ¬ zkn μ c p) := fun q => q.elim hk (fun q => q (k1.mpr h0))
      rw [if_neg hh, e1]
theorem za_chain {E : Nat × (Nat → Int32)} {μ : zMu} {x1 x2 x3 x4 x5 : Int32} (hI : zInv μ) : zAll zInv E μ x1 x2 x3 x4 x5 15 := by
  obtain ⟨nc, nr, np, ni, rf, rt, hN, hC, hP, hL, hY, hI', hB, hF, hK, hA⟩ := id hI
  have h12 := hN.1.2.2
  by_cases hb : zrg nc x1 ∧ zrg 24 x2 ∧ ¬ x3 < 0
  · obtain ⟨c, hc, rfl⟩ := zrg_of hb.1 (by omega)
    obtain ⟨p, hp, rfl⟩ := zrg_of hb.2.1 (by omega)
    obtain ⟨k, hk, rfl⟩ := nI_nonneg hb.2.2
    left
    refine ⟨μ, zu μ 117 0 (nI 0), zchn μ nc c p k, fun g => ct_X7_chain hN.1.1 h12 hc hp hk, fun g => ?_, zu_s, zInv_t hI⟩
    have h := ct_X8_chain (E := E) (μ := μ) (g := g) hN.1.2.1 h12 hc hp hk (zlks_of h12 hp hB hK)
    have e : (fun (_ : Nat) l => dnx (zu μ 117 0 (nI 0)) p l) = (fun (_ : Nat) l => dnx μ p l) := by
      funext _ l
      unfold dnx znx
      rw [zu_r (by omega), zu_r (by omega)]
    have e2 : dl0 (zu μ 117 0 (nI 0)) c p = dl0 μ c p := by
      unfold dl0
      rw [zu_r (by omega)]
    rw [e, e2, ← zchn_eq h12 hc hp hK hA] at h
    exact h
  · right
    exact ⟨_, _, fun g => ctx_X7_chain hN.1.1 h12 (fun q => hb ⟨q.1, q.2.1, Int32.not_lt.mpr q.2.2⟩), fun g => ctx_X8_chain hN.1.2.1 h12 hb, zu_s, zInv_t hI⟩
