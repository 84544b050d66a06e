/-! lose -/
theorem clo_f {c f n : Nat} (μ : zMu) : (∀ p, f ≤ p → p < f + n → zit (clo c) f n μ (34 + 7 * c) p = 100000 ∧ zit (clo c) f n μ (35 + 7 * c) p = 100000 ∧ zit (clo c) f n μ (37 + 7 * c) p = -1) ∧
    ∀ k j, ¬ ((k = 34 + 7 * c ∨ k = 35 + 7 * c ∨ k = 37 + 7 * c) ∧ f ≤ j ∧ j < f + n) → zit (clo c) f n μ k j = μ k j := by
  have h := zit_p0 (f := clo c) (a := f) (N := n) (S := fun k => k = 34 + 7 * c ∨ k = 35 + 7 * c ∨ k = 37 + 7 * c) (fun i ν k j hh => zput_n hh) (fun i ν ν' _ _ _ k hk => by
    rcases hk with rfl | rfl | rfl
    · exact (zput_x (ν := ν)).trans zput_x.symm
    · exact (zput_y (ν := ν)).trans zput_y.symm
    · exact (zput_z (ν := ν)).trans zput_z.symm) μ n (Nat.le_refl _)
  refine ⟨fun p h1 h2 => ⟨?_, ?_, ?_⟩, fun k j hj => h.2 k j hj⟩
  · rw [h.1 (34 + 7 * c) p (Or.inl rfl) h1 h2]; exact zput_x (ν := μ) (c := c) (p := p)
  · rw [h.1 (35 + 7 * c) p (Or.inr (Or.inl rfl)) h1 h2]; exact zput_y (ν := μ) (c := c) (p := p)
  · rw [h.1 (37 + 7 * c) p (Or.inr (Or.inr rfl)) h1 h2]; exact zput_z (ν := μ) (c := c) (p := p)
def dlo2 (c i : Nat) (ν : zMu) : zMu := zu (zu (zu (zu ν 130 (24 * c + i) (nI 0)) 131 (24 * c + i) (nI 0)) 132 (24 * c + i) (nI 0)) 134 (24 * c + i) (-1)
def dcnt (μ : zMu) (c i : Nat) (s : Int32) : Int32 := s + (if μ 130 (24 * c + i) = 0 then nI 0 else nI 1)
theorem dlo2_f {c f n : Nat} (μ : zMu) : (∀ p, f ≤ p → p < f + n → zit (dlo2 c) f n μ 130 (24 * c + p) = nI 0 ∧ zit (dlo2 c) f n μ 134 (24 * c + p) = -1) ∧
    ∀ k j, ¬ ((k = 130 ∨ k = 131 ∨ k = 132 ∨ k = 134) ∧ 24 * c + f ≤ j ∧ j < 24 * c + f + n) → zit (dlo2 c) f n μ k j = μ k j := by
  have h := zit_pt (f := dlo2 c) (a := f) (N := n) (q := 24 * c) (S := fun k => k = 130 ∨ k = 131 ∨ k = 132 ∨ k = 134) (fun i ν k j hh => by
    unfold dlo2
    by_cases e : j = 24 * c + i
    · have h9 : ¬ (k = 130 ∨ k = 131 ∨ k = 132 ∨ k = 134) := fun q => hh ⟨q, e⟩
      rw [zu_o (by omega), zu_o (by omega), zu_o (by omega), zu_o (by omega)]
    · rw [zu_o2 e, zu_o2 e, zu_o2 e, zu_o2 e]) (fun i ν ν' _ _ _ k hk => by
    unfold dlo2
    rcases hk with rfl | rfl | rfl | rfl
    · rw [zu_o (by omega), zu_o (by omega), zu_o (by omega), zu_s, zu_o (by omega), zu_o (by omega), zu_o (by omega), zu_s]
    · rw [zu_o (by omega), zu_o (by omega), zu_s, zu_o (by omega), zu_o (by omega), zu_s]
    · rw [zu_o (by omega), zu_s, zu_o (by omega), zu_s]
    · rw [zu_s, zu_s]) μ n (Nat.le_refl _)
  refine ⟨fun p h1 h2 => ⟨?_, ?_⟩, fun k j hj => h.2 k j (fun s => hj ⟨s.1, s.2.1, s.2.2⟩)⟩
  · rw [h.1 130 p (Or.inl rfl) h1 h2, dlo2, zu_o (by omega), zu_o (by omega), zu_o (by omega), zu_s]
  · rw [h.1 134 p (Or.inr (Or.inr (Or.inr rfl))) h1 h2, dlo2, zu_s]
theorem zite {x y u v : Int32} {d1 : Decidable (x = 0)} {d2 : Decidable (y = 0)} (h : x = y) : @ite Int32 (x = 0) d1 u v = @ite Int32 (y = 0) d2 u v := by
  subst h
  by_cases q : x = 0
  · rw [if_pos q, if_pos q]
  · rw [if_neg q, if_neg q]
theorem dlo_eq {c f : Nat} (μ : zMu) : ∀ (n : Nat) (s : Int32), zit (dlo c) f n (s, μ) = (zit (dcnt μ c) f n s, zit (dlo2 c) f n μ)
  | 0, _ => rfl
  | n + 1, s => by
    rw [zit_s, zit_s, zit_s, dlo_eq μ n s]
    have e := (dlo2_f (c := c) (f := f) (n := n) μ).2 130 (24 * c + (f + n)) (fun q => by have := q.2.2; omega)
    rw [dlo, dcnt]
    exact Prod.ext (congrArg (fun w => zit (dcnt μ c) f n s + w) (zite e)) rfl
theorem ckn_eq {μ : zMu} {nc c f n : Nat} (hc : c < 12) (hn : f + n ≤ 24) (h : ∀ p, p < 24 → rQ μ nc c p) (s : Int32) : zit (ckn μ c) f n s = zit (dcnt μ c) f n s :=
  zit_congr n (fun i hi s => by
    have k1 := zkn_iff hc (h (f + i) (by omega))
    rw [ckn, dcnt]
    by_cases h0 : μ 130 (24 * c + (f + i)) = 0
    · rw [if_pos h0, if_neg (fun q => k1.mp q h0), add_0]
    · rw [if_neg h0, if_pos (k1.mpr h0), n1e]) s
theorem za_lose {E : Nat × (Nat → Int32)} {μ : zMu} {x1 x2 x3 x4 x5 : Int32} (hI : zInv μ) : zAll zInv E μ x1 x2 x3 x4 x5 11 := by
  obtain ⟨nc, nr, np, ni, rf, rt, hN, hC, hP, hL, hY, hI', hB, hF, hK, hA⟩ := id hI
  have h12 := hN.1.2.2
  by_cases hb : zrg nc x1 ∧ zrg 24 x2 ∧ zrg 24 x3
  · obtain ⟨c, hc, rfl⟩ := zrg_of hb.1 (by omega)
    obtain ⟨f, hf, rfl⟩ := zrg_of hb.2.1 (by omega)
    obtain ⟨t, ht, rfl⟩ := zrg_of hb.2.2 (by omega)
    by_cases e : t < f
    · right; right
      refine ⟨zu μ 117 0 (nI 2), nI 0, fun g => ?_, fun g => ?_, zu_s, zInv_t hI⟩
      · have h := ct_X7_lose (E := E) (μ := μ) (g := g) hN.1.1 h12 hc hf ht
        rw [if_pos e] at h
        exact h
      · have h := ct_X8_lose (E := E) (μ := μ) (g := g) hN.1.2.1 h12 hc hf ht
        rw [if_pos e] at h
        exact h
    · left
      have c1 := clo_f (c := c) (f := f) (n := t + 1 - f) μ
      obtain ⟨μ1, hμ1⟩ : ∃ μ1, μ1 = zit (clo c) f (t + 1 - f) μ := ⟨_, rfl⟩
      rw [← hμ1] at c1
      have o1 : ∀ k, 116 < k → μ1 k = μ k := fun k hk => funext fun j => c1.2 k j (fun q => by have := q.1; omega)
      have c2 := dlo2_f (c := c) (f := f) (n := t + 1 - f) (zu μ1 117 0 (nI 0))
      obtain ⟨ν, hν⟩ : ∃ ν, ν = zit (dlo2 c) f (t + 1 - f) (zu μ1 117 0 (nI 0)) := ⟨_, rfl⟩
      rw [← hν] at c2
      have eR := dlo_eq (c := c) (f := f) (zu μ1 117 0 (nI 0)) (t + 1 - f) (nI 0)
      rw [← hν] at eR
      have eC : zit (dcnt (zu μ1 117 0 (nI 0)) c) f (t + 1 - f) (nI 0) = zit (ckn μ c) f (t + 1 - f) (nI 0) := by
        have e1 : dcnt (zu μ1 117 0 (nI 0)) c = dcnt μ c := by
          funext i s
          rw [dcnt, dcnt, zu_o (by omega), o1 130 (by omega)]
        rw [e1, ckn_eq (by omega) (by omega) (hK c hc).2.2]
      rw [eC] at eR
      refine ⟨μ1, ν, zit (ckn μ c) f (t + 1 - f) (nI 0), fun g => ?_, fun g => ?_, ?_, ?_⟩
      · have h := ct_X7_lose (E := E) (μ := μ) (g := g) hN.1.1 h12 hc hf ht
        rw [if_neg e, ← hμ1] at h
        exact h
      · have h := ct_X8_lose (E := E) (μ := μ1) (g := g) (nc := nc) (by rw [o1 117 (by omega)]; exact hN.1.2.1) h12 hc hf ht
        rw [if_neg e, eR] at h
        exact h
      · rw [c2.2 117 0 (fun q => by have := q.1; omega), zu_s]
      · have oc : ∀ k j, k < 117 → ν k j = μ1 k j := fun k j hk => by rw [c2.2 k j (fun q => by have := q.1; omega), zu_o (by omega)]
        refine zI_row (a := c) (P := fun p => f ≤ p ∧ p < f + (t + 1 - f)) hc (fun p hp => by have h1 := hp.1; have h2 := hp.2; omega) (fun k j q1 q2 q3 => ?_) (fun k j q1 q2 q3 q4 => ?_) hN hC hP hL hY hI' hB hF hK (fun p hp => Or.inl (c2.1 p hp.1 hp.2).1) (fun p hp => ?_) (rA_s (fun d hd p hp => ?_) hA)
        · rw [oc k j q1, c1.2 k j (fun q => q3 ⟨by have := q.1; omega, q.2⟩)]
        · rw [c2.2 k j (fun q => q4 ⟨by have := q.1; omega, j - 24 * c, ⟨by omega, by omega⟩, by omega⟩)]
          by_cases e7 : k = 117
          · subst e7
            rw [zu_o2 (fun q => q3 ⟨rfl, q⟩), o1 117 (by omega)]
          · rw [zu_o e7, o1 k (by omega)]
        · have hp1 := hp.1
          have hp2 := hp.2
          have h9 := (hK c hc).2.2 p (by omega)
          obtain ⟨⟨a1, a2⟩, a3, a4⟩ := h9
          obtain ⟨b1, b2, b3⟩ := c1.1 p hp.1 hp.2
          obtain ⟨d1, d2⟩ := c2.1 p hp.1 hp.2
          have e36 : ν (36 + 7 * c) p = μ (36 + 7 * c) p := by rw [oc _ _ (by omega), c1.2 _ _ (fun q => by have := q.1; omega)]
          have e133 : ν 133 (24 * c + p) = μ 133 (24 * c + p) := by rw [c2.2 _ _ (fun q => by have := q.1; omega), zu_o (by omega), o1 133 (by omega)]
          unfold rQ
          rw [e36, e133, oc (34 + 7 * c) p (by omega), oc (35 + 7 * c) p (by omega), oc (37 + 7 * c) p (by omega), b1, b2, b3, d1, d2]
          exact ⟨⟨a1, a2⟩, rfl, Or.inr ⟨rfl, rfl, rfl, rfl⟩⟩
        · rw [oc _ _ (by omega)]
          by_cases e9 : d = c ∧ f ≤ p ∧ p < f + (t + 1 - f)
          · obtain ⟨rfl, e8⟩ := e9
            exact Or.inr (c1.1 p e8.1 e8.2).2.2
          · exact Or.inl (c1.2 _ _ (fun q => e9 ⟨by have := q.1; omega, q.2⟩))
  · right; left
    exact ⟨_, _, fun g => ctx_X7_lose hN.1.1 h12 hb, fun g => ctx_X8_lose hN.1.2.1 h12 hb, zu_s, zInv_t hI⟩
