/-! shrink -/
theorem zifc {p q : Prop} {d1 : Decidable p} {d2 : Decidable q} {u v u' v' : Int32} (h : p ↔ q) (e : u = u') (e' : v = v') : @ite Int32 p d1 u v = @ite Int32 q d2 u' v' := by
  by_cases hp : p
  · rw [if_pos hp, if_pos (h.mp hp), e]
  · rw [if_neg hp, if_neg (fun s => hp (h.mpr s)), e']
theorem zkn_c {μ ν : zMu} {c d p : Nat} (e : μ (34 + 7 * c) p = ν (34 + 7 * d) p) : zkn μ c p ↔ zkn ν d p := by unfold zkn; rw [e]
theorem zhr {h : Int32} : (¬ h < nI 50 ∧ h ≤ nI 200) ↔ (¬ h < nI 50 ∧ ¬ nI 200 < h) := ⟨fun q => ⟨q.1, Int32.not_lt.mpr q.2⟩, fun q => ⟨q.1, Int32.not_lt.mp q.2⟩⟩
theorem dcan_f {μ : zMu} {c : Nat} {h : Int32} {a : Nat} : ∀ n, zit (dcan μ c h) a n (nI 1) = 0 ↔ ¬ ∀ i, i < n → dcnP μ c h (a + i)
  | 0 => ⟨fun q => absurd (show nI 1 = 0 from q) (by decide), fun q => absurd (fun i hi => absurd hi (Nat.not_lt_zero i)) q⟩
  | n + 1 => by
    have ih := dcan_f (μ := μ) (c := c) (h := h) (a := a) n
    rw [zit_s, dcan]
    by_cases hs : zit (dcan μ c h) a n (nI 1) = 0
    · rw [if_pos hs]
      exact ⟨fun _ q => ih.mp hs (fun i hi => q i (by omega)), fun _ => nI_0⟩
    · rw [if_neg hs]
      have hall : ∀ i, i < n → dcnP μ c h (a + i) := Classical.not_not.mp (fun q => hs (ih.mpr q))
      by_cases hp : dcnP μ c h (a + n)
      · rw [if_pos hp]
        refine ⟨fun q => absurd q (by decide), fun q => absurd (fun i hi => ?_) q⟩
        by_cases e : i = n
        · rw [e]; exact hp
        · exact hall i (by omega)
      · rw [if_neg hp]
        exact ⟨fun _ q => hp (q n (by omega)), fun _ => nI_0⟩
theorem cshP_eq {μ : zMu} {nc c p : Nat} {h : Int32} (hc : c < 12) (h9 : rQ μ nc c p) : cshP μ c h p ↔ dcnP μ c h p := by
  have k1 := zkn_iff hc h9
  rcases h9.2.2 with ⟨a0, ⟨a1, a2⟩, -⟩ | ⟨a0, -⟩
  · unfold cshP dcnP
    rw [a1, a2]
    exact ⟨fun q => Or.inr (q (k1.mpr a0)), fun q _ => q.elim (fun q => absurd q a0) id⟩
  · exact ⟨fun _ => Or.inl a0, fun _ q => absurd a0 (k1.mp q)⟩
theorem cshr_x {c i : Nat} {h : Int32} {ν : zMu} : cshr c h i ν (34 + 7 * c) i = if zkn ν c i then ν (34 + 7 * c) i * h / nI 100 else ν (34 + 7 * c) i := by
  unfold cshr
  by_cases hk : zkn ν c i
  · rw [if_pos hk, if_pos hk, zu_o (by omega), zu_s]
  · rw [if_neg hk, if_neg hk]
theorem cshr_y {c i : Nat} {h : Int32} {ν : zMu} : cshr c h i ν (35 + 7 * c) i = if zkn ν c i then ν (35 + 7 * c) i * h / nI 100 else ν (35 + 7 * c) i := by
  unfold cshr
  by_cases hk : zkn ν c i
  · rw [if_pos hk, if_pos hk, zu_s, zu_o (by omega)]
  · rw [if_neg hk, if_neg hk]
theorem cshr_n {c i : Nat} {h : Int32} {ν : zMu} {k j : Nat} (hh : ¬ ((k = 34 + 7 * c ∨ k = 35 + 7 * c) ∧ j = i)) : cshr c h i ν k j = ν k j := by
  unfold cshr
  by_cases hk : zkn ν c i
  · rw [if_pos hk]
    by_cases e : j = i
    · rw [zu_o (fun q => hh ⟨Or.inr q, e⟩), zu_o (fun q => hh ⟨Or.inl q, e⟩)]
    · rw [zu_o2 e, zu_o2 e]
  · rw [if_neg hk]
theorem cshr_f {c a n : Nat} {h : Int32} (μ : zMu) : (∀ p, a ≤ p → p < a + n → zit (cshr c h) a n μ (34 + 7 * c) p = (if zkn μ c p then μ (34 + 7 * c) p * h / nI 100 else μ (34 + 7 * c) p) ∧ zit (cshr c h) a n μ (35 + 7 * c) p = (if zkn μ c p then μ (35 + 7 * c) p * h / nI 100 else μ (35 + 7 * c) p)) ∧
    ∀ k j, ¬ ((k = 34 + 7 * c ∨ k = 35 + 7 * c) ∧ a ≤ j ∧ j < a + n) → zit (cshr c h) a n μ k j = μ k j := by
  have h9 := zit_p0 (f := cshr c h) (a := a) (N := n) (S := fun k => k = 34 + 7 * c ∨ k = 35 + 7 * c) (fun i ν k j hh => cshr_n hh) (fun i ν ν' _ _ hag k hk => by
    have e34 : ν (34 + 7 * c) i = ν' (34 + 7 * c) i := hag _ _ (fun _ => Or.inl rfl)
    have e35 : ν (35 + 7 * c) i = ν' (35 + 7 * c) i := hag _ _ (fun _ => Or.inl rfl)
    rcases hk with rfl | rfl
    · exact cshr_x.trans ((zifc (zkn_c e34) (by rw [e34]) e34).trans cshr_x.symm)
    · exact cshr_y.trans ((zifc (zkn_c e34) (by rw [e35]) e35).trans cshr_y.symm)) μ n (Nat.le_refl _)
  refine ⟨fun p h1 h2 => ⟨?_, ?_⟩, fun k j hj => h9.2 k j hj⟩
  · rw [h9.1 (34 + 7 * c) p (Or.inl rfl) h1 h2, cshr_x]
  · rw [h9.1 (35 + 7 * c) p (Or.inr rfl) h1 h2, cshr_y]
theorem dshr_f {c a n : Nat} {h : Int32} (μ : zMu) : (∀ p, a ≤ p → p < a + n → zit (dshr c h) a n μ 131 (24 * c + p) = μ 131 (24 * c + p) * h / nI 100 ∧ zit (dshr c h) a n μ 132 (24 * c + p) = μ 132 (24 * c + p) * h / nI 100) ∧
    ∀ k j, ¬ ((k = 131 ∨ k = 132) ∧ 24 * c + a ≤ j ∧ j < 24 * c + a + n) → zit (dshr c h) a n μ k j = μ k j := by
  have h9 := zit_pt (f := dshr c h) (a := a) (N := n) (q := 24 * c) (S := fun k => k = 131 ∨ k = 132) (fun i ν k j hh => by
    unfold dshr
    by_cases e : j = 24 * c + i
    · rw [zu_o (fun q => hh ⟨Or.inr q, e⟩), zu_o (fun q => hh ⟨Or.inl q, e⟩)]
    · rw [zu_o2 e, zu_o2 e]) (fun i ν ν' _ _ hag k hk => by
    have e1 : ν 131 (24 * c + i) = ν' 131 (24 * c + i) := hag _ _ (fun _ => Or.inl rfl)
    have e2 : ν 132 (24 * c + i) = ν' 132 (24 * c + i) := hag _ _ (fun _ => Or.inl rfl)
    unfold dshr
    rcases hk with rfl | rfl
    · rw [zu_o (by omega), zu_s, zu_o (by omega), zu_s, e1]
    · rw [zu_s, zu_s, e2]) μ n (Nat.le_refl _)
  refine ⟨fun p h1 h2 => ⟨?_, ?_⟩, fun k j hj => h9.2 k j hj⟩
  · rw [h9.1 131 p (Or.inl rfl) h1 h2, dshr, zu_o (by omega), zu_s]
  · rw [h9.1 132 p (Or.inr rfl) h1 h2, dshr, zu_s]
theorem zu_id {ν : zMu} {k j : Nat} : zu ν k j (ν k j) = ν := by
  funext a b
  by_cases e1 : a = k
  · by_cases e2 : b = j
    · subst e1 e2
      exact zu_s
    · exact zu_o2 e2
  · exact zu_o e1
theorem za_shrink1 {E : Nat × (Nat → Int32)} {μ : zMu} {x1 x2 x3 : Int32} (hI : zInv μ) : zOkI E kX7_shrink kX8_shrink [.int (x1), .int (x2), .int (x3), .int (nI 1)] zInv μ ∨ zThI E kX7_shrink kX8_shrink [.int (x1), .int (x2), .int (x3), .int (nI 1)] zInv μ xI 1 ∨ zThI E kX7_shrink kX8_shrink [.int (x1), .int (x2), .int (x3), .int (nI 1)] zInv μ xA 2 ∨ zThI E kX7_shrink kX8_shrink [.int (x1), .int (x2), .int (x3), .int (nI 1)] zInv μ xS 3 := by
  obtain ⟨nc, nr, np, ni, rf, rt, hN, hC, hP, hL, hY, hI', hB, hF, hK, hA⟩ := id hI
  have h12 := hN.1.2.2
  by_cases hb : zrg nc x1 ∧ zrg 3 x2
  · obtain ⟨c, hc, rfl⟩ := zrg_of hb.1 (by omega)
    obtain ⟨b, hb3, rfl⟩ := zrg_of hb.2 (by omega)
    by_cases hz : ¬ x3 < nI 50 ∧ x3 ≤ nI 200
    · left
      obtain ⟨μ1, hμ1⟩ : ∃ μ1, μ1 = zu μ (38 + 7 * c) b x3 := ⟨_, rfl⟩
      have o1 : ∀ k, k ≠ 38 + 7 * c → μ1 k = μ k := fun k q => by rw [hμ1, zu_r q]
      obtain ⟨ν, hν⟩ : ∃ ν, ν = zu (zu μ1 117 0 (nI 0)) 129 (3 * c + b) x3 := ⟨_, rfl⟩
      have o : ∀ k, k ≠ 38 + 7 * c → k ≠ 117 → k ≠ 129 → ν k = μ k := fun k q1 q2 q3 => by rw [hν, zu_r q3, zu_r q2, o1 k q1]
      have o117 : ∀ j, j ≠ 0 → ν 117 j = μ 117 j := fun j q => by rw [hν, zu_o (by omega), zu_o2 q, o1 117 (by omega)]
      refine ⟨μ1, ν, x3, fun g => ?_, fun g => ?_, ?_, ?_⟩
      · have h := ct_X7_shrink1 (E := E) (μ := μ) (g := g) hN.1.1 h12 hc hb3 (h := x3)
        rw [if_neg (fun q => q hz), zu_s, ← hμ1] at h
        exact h
      · have h := ct_X8_shrink1 (E := E) (μ := μ1) (g := g) (nc := nc) (by rw [o1 117 (by omega)]; exact hN.1.2.1) h12 hc hb3 (h := x3)
        rw [if_neg (fun q => q (zhr.mp hz)), ← hν] at h
        exact h
      · rw [hν, zu_o (by omega), zu_s]
      · refine zI_ch (μ := μ) (nc' := nc) (fun k q1 q2 q3 q4 q5 q6 => o k (by omega) (by omega) (by omega)) ?_ ?_ h12 (o117 5 (by omega)) (o117 8 (by omega)) (o117 23 (by omega)) hN hC hP hL hY hI' (kB (o 130 (by omega) (by omega) (by omega)) hB) (kF (fun c2 hc2 => o _ (by omega) (by omega) (by omega)) (o 140 (by omega) (by omega) (by omega)) hF) ?_ (rA_s (fun c2 hc2 p hp => Or.inl (by rw [o (37 + 7 * c2) (by omega) (by omega) (by omega)])) hA)
        · rw [o 1 (by omega) (by omega) (by omega)]; exact hN.1.1
        · rw [o117 13 (by omega)]; exact hN.1.2.1
        · intro c2 hc2
          obtain ⟨a1, a2, a3⟩ := hK c2 hc2
          refine ⟨?_, fun b2 hb2 => ?_, fun r hr => ?_⟩
          · rw [o (33 + 7 * c2) (by omega) (by omega) (by omega), o 128 (by omega) (by omega) (by omega)]
            exact a1
          · by_cases e : c2 = c ∧ b2 = b
            · obtain ⟨rfl, rfl⟩ := e
              rw [hν, zu_o (by omega), zu_o (by omega), hμ1, zu_s, zu_s]
            · have a5 : ν 129 (3 * c2 + b2) = μ 129 (3 * c2 + b2) := by rw [hν, zu_o2 (by omega), zu_o (by omega), o1 129 (by omega)]
              have a4 : ν (38 + 7 * c2) b2 = μ (38 + 7 * c2) b2 := by
                rw [hν, zu_o (by omega), zu_o (by omega), hμ1]
                by_cases e2 : c2 = c
                · exact zu_o2 (fun q => e ⟨e2, q⟩)
                · exact zu_o (by omega)
              rw [a4, a5]
              exact a2 b2 hb2
          · refine rQ_v (Nat.le_refl _) ?_ ?_ ?_ ?_ (fun k q1 q2 => by rw [o k (by omega) (by omega) (by omega)]) (a3 r hr)
            · rw [o (34 + 7 * c2) (by omega) (by omega) (by omega)]
            · rw [o (35 + 7 * c2) (by omega) (by omega) (by omega)]
            · rw [o (36 + 7 * c2) (by omega) (by omega) (by omega)]
            · rw [o (37 + 7 * c2) (by omega) (by omega) (by omega)]
    · right; right; left
      refine ⟨zu μ 117 0 (nI 2), nI 0, fun g => ?_, fun g => ?_, zu_s, zInv_t hI⟩
      · have h := ct_X7_shrink1 (E := E) (μ := μ) (g := g) hN.1.1 h12 hc hb3 (h := x3)
        rw [if_pos hz] at h
        exact h
      · have h := ct_X8_shrink1 (E := E) (μ := μ) (g := g) hN.1.2.1 h12 hc hb3 (h := x3)
        rw [if_pos (show ¬ (¬ x3 < nI 50 ∧ ¬ nI 200 < x3) from fun q => hz (zhr.mpr q))] at h
        exact h
  · right; left
    exact ⟨_, _, fun g => ctx_X7_shrink hN.1.1 h12 hb, fun g => ctx_X8_shrink hN.1.2.1 h12 hb, zu_s, zInv_t hI⟩
theorem za_shrink0 {E : Nat × (Nat → Int32)} {μ : zMu} {x1 x2 x3 : Int32} (hI : zInv μ) : zOkI E kX7_shrink kX8_shrink [.int (x1), .int (x2), .int (x3), .int (nI 0)] zInv μ ∨ zThI E kX7_shrink kX8_shrink [.int (x1), .int (x2), .int (x3), .int (nI 0)] zInv μ xI 1 ∨ zThI E kX7_shrink kX8_shrink [.int (x1), .int (x2), .int (x3), .int (nI 0)] zInv μ xA 2 ∨ zThI E kX7_shrink kX8_shrink [.int (x1), .int (x2), .int (x3), .int (nI 0)] zInv μ xS 3 := by
  obtain ⟨nc, nr, np, ni, rf, rt, hN, hC, hP, hL, hY, hI', hB, hF, hK, hA⟩ := id hI
  have h12 := hN.1.2.2
  by_cases hb : zrg nc x1 ∧ zrg 3 x2
  · obtain ⟨c, hc, rfl⟩ := zrg_of hb.1 (by omega)
    obtain ⟨b, hb3, rfl⟩ := zrg_of hb.2 (by omega)
    have hQ := (hK c hc).2.2
    have hfit : (∀ i, i < 8 → cshP μ c x3 (b * 8 + i)) ↔ ∀ i, i < 8 → dcnP μ c x3 (b * 8 + i) := ⟨fun q i hi => (cshP_eq (by omega) (hQ _ (by omega))).mp (q i hi), fun q i hi => (cshP_eq (by omega) (hQ _ (by omega))).mpr (q i hi)⟩
    by_cases hz : ¬ x3 < nI 50 ∧ x3 ≤ nI 200
    · by_cases hf : ∀ i, i < 8 → cshP μ c x3 (b * 8 + i)
      · left
        have c1 := cshr_f (c := c) (a := b * 8) (n := 8) (h := x3) μ
        obtain ⟨μ1, hμ1⟩ : ∃ μ1, μ1 = zit (cshr c x3) (b * 8) 8 μ := ⟨_, rfl⟩
        rw [← hμ1] at c1
        have o1 : ∀ k, k ≠ 34 + 7 * c → k ≠ 35 + 7 * c → μ1 k = μ k := fun k q1 q2 => funext fun j => c1.2 k j (fun q => by have := q.1; omega)
        have c2 := dshr_f (c := c) (a := b * 8) (n := 8) (h := x3) (zu μ1 117 0 (nI 0))
        obtain ⟨ν, hν⟩ : ∃ ν, ν = zit (dshr c x3) (b * 8) 8 (zu μ1 117 0 (nI 0)) := ⟨_, rfl⟩
        rw [← hν] at c2
        have ed : dcan μ1 c x3 = dcan μ c x3 := by
          funext i s
          unfold dcan dcnP
          rw [o1 130 (by omega) (by omega), o1 131 (by omega) (by omega), o1 132 (by omega) (by omega)]
        have oc : ∀ k j, k ≠ 117 → k ≠ 131 → k ≠ 132 → ν k j = μ1 k j := fun k j q1 q2 q3 => by rw [c2.2 k j (fun q => by have := q.1; omega), zu_o q1]
        refine ⟨μ1, ν, μ (38 + 7 * c) b, fun g => ?_, fun g => ?_, ?_, ?_⟩
        · have h := ct_X7_shrink0 (E := E) (μ := μ) (g := g) hN.1.1 h12 hc hb3 (h := x3)
          rw [if_neg (fun q => q hz), if_neg (zB_n.mpr hf), ← hμ1, o1 (38 + 7 * c) (by omega) (by omega)] at h
          exact h
        · have h := ct_X8_shrink0 (E := E) (μ := μ1) (g := g) (nc := nc) (by rw [o1 117 (by omega) (by omega)]; exact hN.1.2.1) h12 hc hb3 (h := x3)
          rw [if_neg (fun q => q (zhr.mp hz)), ed, Nat.mul_comm 8 b, if_neg (fun q => (dcan_f (μ := μ) (c := c) (h := x3) (a := b * 8) 8).mp q (hfit.mp hf)), ← hν, zu_id, oc 129 _ (by omega) (by omega) (by omega), o1 129 (by omega) (by omega), ← (hK c hc).2.1 b hb3] at h
          exact h
        · rw [c2.2 117 0 (fun q => by have := q.1; omega), zu_s]
        · refine zI_row (a := c) (P := fun p => b * 8 ≤ p ∧ p < b * 8 + 8) hc (fun p hp => by have h1 := hp.1; have h2 := hp.2; omega) (fun k j q1 q2 q3 => ?_) (fun k j q1 q2 q3 q4 => ?_) hN hC hP hL hY hI' hB hF hK (fun p hp => ?_) (fun p hp => ?_) (rA_s (fun d hd p hp => Or.inl ?_) hA)
          · rw [oc k j (by omega) (by omega) (by omega), c1.2 k j (fun q => q3 ⟨by have := q.1; omega, q.2⟩)]
          · rw [c2.2 k j (fun q => q4 ⟨by have := q.1; omega, j - 24 * c, ⟨by omega, by omega⟩, by omega⟩)]
            by_cases e7 : k = 117
            · subst e7
              rw [zu_o2 (fun q => q3 ⟨rfl, q⟩), o1 117 (by omega) (by omega)]
            · rw [zu_o e7, o1 k (by omega) (by omega)]
          · have hp1 := hp.1
            have hp2 := hp.2
            rw [oc 130 _ (by omega) (by omega) (by omega), o1 130 (by omega) (by omega)]
            exact (hB _ (by omega)).1
          · have hp1 := hp.1
            have hp2 := hp.2
            have h9 := hQ p (by omega)
            have k1 := zkn_iff (by omega) h9
            obtain ⟨⟨a1, a2⟩, a3, a4⟩ := h9
            obtain ⟨b1, b2⟩ := c1.1 p hp1 hp2
            obtain ⟨d1, d2⟩ := c2.1 p hp1 hp2
            rw [zu_o (by omega), o1 131 (by omega) (by omega)] at d1
            rw [zu_o (by omega), o1 132 (by omega) (by omega)] at d2
            have hfp := hf (p - b * 8) (by omega)
            rw [show b * 8 + (p - b * 8) = p by omega] at hfp
            unfold rQ
            rw [oc (36 + 7 * c) p (by omega) (by omega) (by omega), oc 133 _ (by omega) (by omega) (by omega), oc (37 + 7 * c) p (by omega) (by omega) (by omega), oc 134 _ (by omega) (by omega) (by omega), oc 130 _ (by omega) (by omega) (by omega), oc (34 + 7 * c) p (by omega) (by omega) (by omega), oc (35 + 7 * c) p (by omega) (by omega) (by omega), o1 (36 + 7 * c) (by omega) (by omega), o1 133 (by omega) (by omega), o1 (37 + 7 * c) (by omega) (by omega), o1 134 (by omega) (by omega), o1 130 (by omega) (by omega), b1, b2, d1, d2]
            refine ⟨⟨a1, a2⟩, a3, ?_⟩
            rcases a4 with ⟨m0, ⟨m1, m2⟩, m3, m4⟩ | ⟨m0, m1, m2, m3⟩
            · have hk := k1.mpr m0
              rw [if_pos hk, if_pos hk]
              obtain ⟨w1, w2⟩ := hfp hk
              exact Or.inl ⟨m0, ⟨by rw [m1], by rw [m2]⟩, ⟨rb_m (rb_zin (by omega) w1) (by omega), rb_m (rb_zin (by omega) w2) (by omega)⟩, m4⟩
            · have hk : ¬ zkn μ c p := fun q => k1.mp q m0
              rw [if_neg hk, if_neg hk]
              exact Or.inr ⟨m0, m1, m2, m3⟩
          · rw [oc _ _ (by omega) (by omega) (by omega), o1 _ (by omega) (by omega)]
      · right; right; right
        refine ⟨zu μ 117 0 (nI 3), nI 0, fun g => ?_, fun g => ?_, zu_s, zInv_t hI⟩
        · have h := ct_X7_shrink0 (E := E) (μ := μ) (g := g) hN.1.1 h12 hc hb3 (h := x3)
          rw [if_neg (fun q => q hz), if_pos (zB_0.mpr hf)] at h
          exact h
        · have h := ct_X8_shrink0 (E := E) (μ := μ) (g := g) hN.1.2.1 h12 hc hb3 (h := x3)
          rw [if_neg (fun q => q (zhr.mp hz)), Nat.mul_comm 8 b, if_pos ((dcan_f (μ := μ) (c := c) (h := x3) (a := b * 8) 8).mpr (fun q => hf (hfit.mpr q)))] at h
          exact h
    · right; right; left
      refine ⟨zu μ 117 0 (nI 2), nI 0, fun g => ?_, fun g => ?_, zu_s, zInv_t hI⟩
      · have h := ct_X7_shrink0 (E := E) (μ := μ) (g := g) hN.1.1 h12 hc hb3 (h := x3)
        rw [if_pos hz] at h
        exact h
      · have h := ct_X8_shrink0 (E := E) (μ := μ) (g := g) hN.1.2.1 h12 hc hb3 (h := x3)
        rw [if_pos (show ¬ (¬ x3 < nI 50 ∧ ¬ nI 200 < x3) from fun q => hz (zhr.mpr q))] at h
        exact h
  · right; left
    exact ⟨_, _, fun g => ctx_X7_shrink hN.1.1 h12 hb, fun g => ctx_X8_shrink hN.1.2.1 h12 hb, zu_s, zInv_t hI⟩
theorem za_shrink {E : Nat × (Nat → Int32)} {μ : zMu} {x1 x2 x3 x4 x5 : Int32} (hI : zInv μ) : zAll zInv E μ x1 x2 x3 x4 x5 10 := ⟨fun _ => za_shrink0 hI, fun _ => za_shrink1 hI⟩
