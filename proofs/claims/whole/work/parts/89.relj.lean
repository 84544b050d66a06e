/-! paste: what is written -/
section PA
variable {a b i : Nat} {x y : Int32} {ν : zMu}
theorem cpan_n {k : Nat} (h : k ≠ 36 + 7 * a) {j : Nat} : cpan a b i ν k j = ν k j := by unfold cpan; exact zu_o h
theorem cpa_0 : cpa a b x y i ν (36 + 7 * a) i = ν (36 + 7 * b) i := by
  unfold cpa
  split
  · rw [zput_n (fun q => by have := q.1; omega), cpan, zu_s]
  · rw [zput_n (fun q => by have := q.1; omega), cpan, zu_s]
theorem cpa_1 (hab : a ≠ b) : cpa a b x y i ν (34 + 7 * a) i = if zkn ν b i then ν (34 + 7 * b) i + x else 100000 := by
  unfold cpa
  have hk : zkn (cpan a b i ν) b i ↔ zkn ν b i := zkn_c (cpan_n (by omega))
  by_cases h : zkn ν b i
  · rw [if_pos h, if_pos (hk.mpr h), zput_x, cpan_n (by omega)]
  · rw [if_neg h, if_neg (fun q => h (hk.mp q)), zput_x]
theorem cpa_2 (hab : a ≠ b) : cpa a b x y i ν (35 + 7 * a) i = if zkn ν b i then ν (35 + 7 * b) i + y else 100000 := by
  unfold cpa
  have hk : zkn (cpan a b i ν) b i ↔ zkn ν b i := zkn_c (cpan_n (by omega))
  by_cases h : zkn ν b i
  · rw [if_pos h, if_pos (hk.mpr h), zput_y, cpan_n (by omega)]
  · rw [if_neg h, if_neg (fun q => h (hk.mp q)), zput_y]
theorem cpa_3 (hab : a ≠ b) : cpa a b x y i ν (37 + 7 * a) i = if zkn ν b i then nI b else -1 := by
  unfold cpa
  have hk : zkn (cpan a b i ν) b i ↔ zkn ν b i := zkn_c (cpan_n (by omega))
  by_cases h : zkn ν b i
  · rw [if_pos h, if_pos (hk.mpr h), zput_z]
  · rw [if_neg h, if_neg (fun q => h (hk.mp q)), zput_z]
theorem cpa_n {k j : Nat} (hh : ¬ ((k = 34 + 7 * a ∨ k = 35 + 7 * a ∨ k = 36 + 7 * a ∨ k = 37 + 7 * a) ∧ j = i)) : cpa a b x y i ν k j = ν k j := by
  have h9 : cpan a b i ν k j = ν k j := by
    unfold cpan
    by_cases e : j = i
    · exact zu_o (fun q => hh ⟨Or.inr (Or.inr (Or.inl q)), e⟩)
    · exact zu_o2 e
  have h8 : ¬ ((k = 34 + 7 * a ∨ k = 35 + 7 * a ∨ k = 37 + 7 * a) ∧ j = i) := fun q => hh ⟨by have := q.1; omega, q.2⟩
  unfold cpa
  split
  · rw [zput_n h8, h9]
  · rw [zput_n h8, h9]
end PA
theorem cpa_f {a b f n : Nat} {x y : Int32} (hab : a ≠ b) (μ : zMu) : (∀ p, f ≤ p → p < f + n → zit (cpa a b x y) f n μ (36 + 7 * a) p = μ (36 + 7 * b) p ∧ zit (cpa a b x y) f n μ (34 + 7 * a) p = (if zkn μ b p then μ (34 + 7 * b) p + x else 100000) ∧
      zit (cpa a b x y) f n μ (35 + 7 * a) p = (if zkn μ b p then μ (35 + 7 * b) p + y else 100000) ∧ zit (cpa a b x y) f n μ (37 + 7 * a) p = (if zkn μ b p then nI b else -1)) ∧
    ∀ k j, ¬ ((k = 34 + 7 * a ∨ k = 35 + 7 * a ∨ k = 36 + 7 * a ∨ k = 37 + 7 * a) ∧ f ≤ j ∧ j < f + n) → zit (cpa a b x y) f n μ k j = μ k j := by
  have h := zit_p0 (f := cpa a b x y) (a := f) (N := n) (S := fun k => k = 34 + 7 * a ∨ k = 35 + 7 * a ∨ k = 36 + 7 * a ∨ k = 37 + 7 * a) (fun i ν k j hh => cpa_n hh) (fun i ν ν' _ _ hag k hk => by
    have e34 : ν (34 + 7 * b) i = ν' (34 + 7 * b) i := hag _ _ (fun _ => Or.inl rfl)
    have e35 : ν (35 + 7 * b) i = ν' (35 + 7 * b) i := hag _ _ (fun _ => Or.inl rfl)
    have e36 : ν (36 + 7 * b) i = ν' (36 + 7 * b) i := hag _ _ (fun _ => Or.inl rfl)
    rcases hk with rfl | rfl | rfl | rfl
    · exact (cpa_1 hab).trans ((zifc (zkn_c e34) (by rw [e34]) rfl).trans (cpa_1 hab).symm)
    · exact (cpa_2 hab).trans ((zifc (zkn_c e34) (by rw [e35]) rfl).trans (cpa_2 hab).symm)
    · rw [cpa_0, cpa_0, e36]
    · exact (cpa_3 hab).trans ((zifc (zkn_c e34) rfl rfl).trans (cpa_3 hab).symm)) μ n (Nat.le_refl _)
  refine ⟨fun p h1 h2 => ⟨?_, ?_, ?_, ?_⟩, fun k j hj => h.2 k j hj⟩
  · rw [h.1 (36 + 7 * a) p (Or.inr (Or.inr (Or.inl rfl))) h1 h2, cpa_0]
  · rw [h.1 (34 + 7 * a) p (Or.inl rfl) h1 h2, cpa_1 hab]
  · rw [h.1 (35 + 7 * a) p (Or.inr (Or.inl rfl)) h1 h2, cpa_2 hab]
  · rw [h.1 (37 + 7 * a) p (Or.inr (Or.inr (Or.inr rfl))) h1 h2, cpa_3 hab]
section PB
variable {a b i : Nat} {x y : Int32} {ν : zMu}
theorem dpaa_b (hab : a ≠ b) (hi : i < 24) : dpaa a b x y i ν 130 (24 * b + i) = ν 130 (24 * b + i) := by
  unfold dpaa
  rw [zu_o (by omega), zu_o (by omega), zu_o (by omega), zu_o2 (by omega)]
theorem dpab_0 : dpab a b x y i ν 130 (24 * a + i) = ν 130 (24 * b + i) := by
  unfold dpab
  rw [zu_o (by omega), dpaa, zu_o (by omega), zu_o (by omega), zu_o (by omega), zu_s]
theorem dpab_1 (hab : a ≠ b) (hi : i < 24) : dpab a b x y i ν 131 (24 * a + i) = ν 131 (24 * b + i) + x := by
  unfold dpab
  rw [zu_o (by omega), dpaa, zu_o (by omega), zu_o (by omega), zu_s]
theorem dpab_2 (hab : a ≠ b) (hi : i < 24) : dpab a b x y i ν 132 (24 * a + i) = ν 132 (24 * b + i) + y := by
  unfold dpab
  rw [zu_o (by omega), dpaa, zu_o (by omega), zu_s]
theorem dpab_3 : dpab a b x y i ν 133 (24 * a + i) = ν 133 (24 * b + i) := by
  unfold dpab
  rw [zu_o (by omega), dpaa, zu_s]
theorem dpab_4 (hab : a ≠ b) (hi : i < 24) : dpab a b x y i ν 134 (24 * a + i) = if ν 130 (24 * b + i) = 0 then -1 else nI b := by
  unfold dpab
  rw [zu_s, dpaa_b hab hi]
theorem dpab_n {k j : Nat} (hh : ¬ ((130 ≤ k ∧ k ≤ 134) ∧ j = 24 * a + i)) : dpab a b x y i ν k j = ν k j := by
  unfold dpab dpaa
  by_cases e : j = 24 * a + i
  · have h9 : ¬ (130 ≤ k ∧ k ≤ 134) := fun q => hh ⟨q, e⟩
    rw [zu_o (by omega), zu_o (by omega), zu_o (by omega), zu_o (by omega), zu_o (by omega)]
  · rw [zu_o2 e, zu_o2 e, zu_o2 e, zu_o2 e, zu_o2 e]
end PB
theorem dpab_f {a b f n : Nat} {x y : Int32} (hab : a ≠ b) (hn : f + n ≤ 24) (μ : zMu) : (∀ p, f ≤ p → p < f + n → zit (dpab a b x y) f n μ 130 (24 * a + p) = μ 130 (24 * b + p) ∧ zit (dpab a b x y) f n μ 131 (24 * a + p) = μ 131 (24 * b + p) + x ∧
      zit (dpab a b x y) f n μ 132 (24 * a + p) = μ 132 (24 * b + p) + y ∧ zit (dpab a b x y) f n μ 133 (24 * a + p) = μ 133 (24 * b + p) ∧ zit (dpab a b x y) f n μ 134 (24 * a + p) = (if μ 130 (24 * b + p) = 0 then -1 else nI b)) ∧
    ∀ k j, ¬ ((130 ≤ k ∧ k ≤ 134) ∧ 24 * a + f ≤ j ∧ j < 24 * a + f + n) → zit (dpab a b x y) f n μ k j = μ k j := by
  have h := zit_pt (f := dpab a b x y) (a := f) (N := n) (q := 24 * a) (S := fun k => 130 ≤ k ∧ k ≤ 134) (fun i ν k j hh => dpab_n hh) (fun i ν ν' hi1 hi2 hag k hk => by
    have e0 : ν 130 (24 * b + i) = ν' 130 (24 * b + i) := hag _ _ (fun _ => Or.inr (by omega))
    have e1 : ν 131 (24 * b + i) = ν' 131 (24 * b + i) := hag _ _ (fun _ => Or.inr (by omega))
    have e2 : ν 132 (24 * b + i) = ν' 132 (24 * b + i) := hag _ _ (fun _ => Or.inr (by omega))
    have e3 : ν 133 (24 * b + i) = ν' 133 (24 * b + i) := hag _ _ (fun _ => Or.inr (by omega))
    have hks : k = 130 ∨ k = 131 ∨ k = 132 ∨ k = 133 ∨ k = 134 := by have h1 := hk.1; have h2 := hk.2; omega
    rcases hks with rfl | rfl | rfl | rfl | rfl
    · rw [dpab_0, dpab_0, e0]
    · rw [dpab_1 hab (by omega), dpab_1 hab (by omega), e1]
    · rw [dpab_2 hab (by omega), dpab_2 hab (by omega), e2]
    · rw [dpab_3, dpab_3, e3]
    · rw [dpab_4 hab (by omega), dpab_4 hab (by omega), e0]) μ n (Nat.le_refl _)
  refine ⟨fun p h1 h2 => ⟨?_, ?_, ?_, ?_, ?_⟩, fun k j hj => h.2 k j hj⟩
  · rw [h.1 130 p ⟨by omega, by omega⟩ h1 h2, dpab_0]
  · rw [h.1 131 p ⟨by omega, by omega⟩ h1 h2, dpab_1 hab (by omega)]
  · rw [h.1 132 p ⟨by omega, by omega⟩ h1 h2, dpab_2 hab (by omega)]
  · rw [h.1 133 p ⟨by omega, by omega⟩ h1 h2, dpab_3]
  · rw [h.1 134 p ⟨by omega, by omega⟩ h1 h2, dpab_4 hab (by omega)]
theorem dpa_eq {a b f : Nat} {x y : Int32} (hab : a ≠ b) (μ : zMu) : ∀ (n : Nat), f + n ≤ 24 → ∀ (s : Int32), zit (dpa a b x y) f n (s, μ) = (zit (dcnt μ b) f n s, zit (dpab a b x y) f n μ)
  | 0, _, _ => rfl
  | n + 1, hn, s => by
    rw [zit_s, zit_s, zit_s, dpa_eq hab μ n (by omega) s]
    have e := (dpab_f (x := x) (y := y) (f := f) (n := n) hab (by omega) μ).2 130 (24 * b + (f + n)) (fun q => by have := q.2; omega)
    rw [dpa, dcnt]
    exact Prod.ext (congrArg (fun w => zit (dcnt μ b) f n s + w) (zite ((dpaa_b hab (by omega)).trans e))) rfl
/-! paste: chains -/
theorem dnx_c {μ ν : zMu} {p : Nat} (h0 : ν 130 = μ 130) (h4 : ν 134 = μ 134) : dnx ν p = dnx μ p := by
  funext l
  unfold dnx znx
  rw [h0, h4]
theorem dhit_c {μ ν : zMu} {p a : Nat} (h0 : ν 130 = μ 130) (h4 : ν 134 = μ 134) : ∀ n l, dhit ν p a n l ↔ dhit μ p a n l
  | 0, _ => Iff.rfl
  | n + 1, l => by
    rw [dhit, dhit, dnx_c h0 h4, dhit_c h0 h4 n]
theorem dst_c {μ ν : zMu} {p a : Nat} (h0 : ν 130 = μ 130) (h4 : ν 134 = μ 134) : ∀ n l, dst ν p a n l ↔ dst μ p a n l
  | 0, _ => Iff.rfl
  | n + 1, l => by
    rw [dst, dst, dnx_c h0 h4, dst_c h0 h4 n]
section CH
variable {μ : zMu} {nc p a : Nat} {g : Nat → Nat} (hn : nc ≤ 12) (hp : p < 24) (hK : rK μ nc) (hg : ∀ c, c < nc → ∀ j, j < nc → μ (37 + 7 * c) p = nI j → g j < g c)
theorem dst_of (hn : nc ≤ 12) (hp : p < 24) (hK : rK μ nc) (hg : ∀ c, c < nc → ∀ j, j < nc → μ (37 + 7 * c) p = nI j → g j < g c) : ∀ n j, j < nc → g j < n → dst μ p a (n + 1) (nI j)
  | 0, _, _, h => absurd h (Nat.not_lt_zero _)
  | n + 1, j, hj, h => by
    obtain ⟨e1, e2⟩ := zlk ((hK j hj).2.2 p hp)
    refine Or.inr (Or.inr ?_)
    rw [dnx_n (by omega), e1]
    rcases e2 with e | ⟨i, hi, e⟩
    · rw [e]; exact Or.inl rfl
    · rw [e]
      have := hg j hj i hi e
      exact dst_of hn hp hK hg n i hi (by omega)
theorem dhit_z (hn : nc ≤ 12) (hp : p < 24) (hK : rK μ nc) (ha : a < nc) : ∀ m l, (l = -1 ∨ ∃ j, j < nc ∧ l = nI j) → ((l = nI a ∨ zld μ nc p (nI a) m l) ↔ dhit μ p a (m + 1) l)
  | 0, l, _ => by
    constructor
    · rintro (rfl | h)
      · exact ⟨fun q => znm1 (by omega) q.symm, Or.inl rfl⟩
      · exact h.elim
    · rintro ⟨_, h | h⟩
      · exact Or.inl h
      · exact h.elim
  | m + 1, l, hl => by
    obtain ⟨s1, s2⟩ := zsd hn hp hK hl
    have ih := dhit_z hn hp hK ha m (dnx μ p l) s2
    constructor
    · rintro (rfl | ⟨h1, h2⟩)
      · exact ⟨fun q => znm1 (by omega) q.symm, Or.inl rfl⟩
      · rw [s1] at h2
        exact ⟨h1, Or.inr (ih.mp h2)⟩
    · rintro ⟨h1, h | h⟩
      · exact Or.inl h
      · refine Or.inr ⟨h1, ?_⟩
        rw [s1]
        exact ih.mpr h
theorem dhit_s (hn : nc ≤ 12) (hp : p < 24) (hK : rK μ nc) (hg : ∀ c, c < nc → ∀ j, j < nc → μ (37 + 7 * c) p = nI j → g j < g c) : ∀ n j, j < nc → dhit μ p a n (nI j) → ∀ m, g j < m → dhit μ p a m (nI j)
  | 0, _, _, h, _, _ => h.elim
  | n + 1, j, hj, h, m, hm => by
    obtain ⟨m, rfl⟩ : ∃ m', m = m' + 1 := ⟨m - 1, by omega⟩
    obtain ⟨h1, h2⟩ := h
    refine ⟨h1, ?_⟩
    rcases h2 with h2 | h2
    · exact Or.inl h2
    · right
      obtain ⟨e1, e2⟩ := zlk ((hK j hj).2.2 p hp)
      rw [dnx_n (by omega), e1] at h2 ⊢
      rcases e2 with e | ⟨i, hi, e⟩
      · rw [e] at h2
        cases n with
        | zero => exact h2.elim
        | succ n => exact absurd rfl h2.1
      · rw [e] at h2 ⊢
        have := hg j hj i hi e
        exact dhit_s hn hp hK hg n i hi h2 m (by omega)
end CH
theorem zld_hit {μ : zMu} {nc p a b : Nat} (hn : nc ≤ 12) (hp : p < 24) (hK : rK μ nc) (ha : a < nc) (hb : b < nc) (hab : a ≠ b) : zld μ nc p (nI a) 12 (nI b) ↔ dhit μ p a 13 (dl0 μ b p) := by
  have h9 := dhit_z hn hp hK ha 12 (nI b) (Or.inr ⟨b, hb, rfl⟩)
  have hne : ¬ nI b = nI a := fun q => hab ((nI_eq (by omega) (by omega)).mp q).symm
  have hQ := (hK b hb).2.2 p hp
  rw [dl0]
  by_cases h0 : μ 130 (24 * b + p) = 0
  · rw [if_pos h0]
    refine ⟨fun q => ?_, fun q => absurd rfl q.1⟩
    have es : μ (37 + 7 * b) p = -1 := by
      rcases hQ.2.2 with ⟨a0, -⟩ | ⟨-, -, -, a3⟩
      · exact absurd h0 a0
      · exact a3
    obtain ⟨q1, q2⟩ := q
    rw [zsrc_n hb hn, es] at q2
    rcases q2 with q2 | q2
    · exact absurd q2 (znm1 (by omega))
    · exact absurd q2 zld_z
  · rw [if_neg h0]
    exact ⟨fun q => h9.mp (Or.inr q), fun q => (h9.mpr q).elim (fun q => absurd q hne) id⟩
theorem rA_p {μ ν : zMu} {nc a b : Nat} {P : Nat → Prop} (hn : nc ≤ 12) (ha : a < nc) (hb : b < nc) (hab : a ≠ b) (hK : rK μ nc) (hA : rA μ nc)
    (h1 : ∀ c, c < nc → ∀ p, p < 24 → ¬ (c = a ∧ P p) → ν (37 + 7 * c) p = μ (37 + 7 * c) p) (h2 : ∀ p, p < 24 → P p → ν (37 + 7 * a) p = -1 ∨ (ν (37 + 7 * a) p = nI b ∧ ¬ dhit μ p a 13 (nI b))) : rA ν nc := by
  intro p hp
  obtain ⟨h, hh⟩ := hA p hp
  by_cases hPp : P p
  · obtain ⟨g, g1, g2⟩ := rA_b hA hn hp
    have hR : ∀ c, c < nc → c ≠ a → ∀ j, j < nc → μ (37 + 7 * c) p = nI j → ((∃ n, dhit μ p a n (nI c)) ↔ ∃ n, dhit μ p a n (nI j)) := by
      intro c hc hca j hj e
      obtain ⟨e1, -⟩ := zlk ((hK c hc).2.2 p hp)
      have e3 : dnx μ p (nI c) = nI j := by rw [dnx_n (by omega), e1, e]
      constructor
      · rintro ⟨n, q⟩
        cases n with
        | zero => exact q.elim
        | succ n =>
          obtain ⟨-, q | q⟩ := q
          · exact absurd ((nI_eq (by omega) (by omega)).mp q) hca
          · rw [e3] at q
            exact ⟨n, q⟩
      · rintro ⟨n, q⟩
        refine ⟨n + 1, fun q => znm1 (by omega) q.symm, Or.inr ?_⟩
        rw [e3]
        exact q
    refine ⟨fun c => @ite Nat (∃ n, dhit μ p a n (nI c)) (Classical.propDecidable _) (h c + h b + 1) (h c), fun c hc j hj e => ?_⟩
    dsimp only
    by_cases hca : c = a
    · subst hca
      rcases h2 p hp hPp with e9 | ⟨e9, hno⟩
      · exact absurd (e9.symm.trans e) (znm1 (by omega))
      · have ej : j = b := (nI_eq (by omega) (by omega)).mp (e.symm.trans e9)
        subst ej
        have hRa : ∃ n, dhit μ p c n (nI c) := ⟨1, fun q => znm1 (by omega) q.symm, Or.inl rfl⟩
        have hRb : ¬ ∃ n, dhit μ p c n (nI j) := fun ⟨n, q⟩ => hno (dhit_s hn hp hK g2 n j hb q 13 (by have := g1 j hb; omega))
        rw [if_pos hRa, if_neg hRb]
        exact ⟨hb, by omega⟩
    · rw [h1 c hc p hp (fun q => hca q.1)] at e
      obtain ⟨hj2, hlt⟩ := hh c hc j hj e
      refine ⟨hj2, ?_⟩
      by_cases hRj : ∃ n, dhit μ p a n (nI j)
      · rw [if_pos hRj, if_pos ((hR c hc hca j hj2 e).mpr hRj)]
        omega
      · rw [if_neg hRj, if_neg (fun q => hRj ((hR c hc hca j hj2 e).mp q))]
        exact hlt
  · refine ⟨h, fun c hc j hj e => hh c hc j hj ?_⟩
    rw [h1 c hc p hp (fun q => hPp q.2)] at e
    exact e
