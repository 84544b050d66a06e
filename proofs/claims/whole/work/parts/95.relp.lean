/-! chart: the rounds, as often as they go on -/
theorem zit_sh {α : Type} {f : Nat → α → α} (h : ∀ i j s, f i s = f j s) : ∀ (n : Nat) (s : α), zit f 0 (n + 1) s = zit f 0 n (f 0 s)
  | 0, s => rfl
  | n + 1, s => by rw [zit_s, zit_sh h n s, zit_s f 0 n (f 0 s), h (0 + (n + 1)) (0 + n)]
theorem clay_k {rf rt : Nat → Nat} {c r k : Nat} (h1 : k ≠ 16 ∧ k ≠ 17 ∧ k ≠ 18) (h2 : k ≠ 34 + 7 * c ∧ k ≠ 35 + 7 * c ∧ k ≠ 37 + 7 * c) : ∀ (n : Nat) (s : Int32 × zMu), (zit (clay rf rt c r) 0 n s).2 k = s.2 k
  | 0, _ => rfl
  | n + 1, s => by rw [zit_s, clay_o h1 h2, clay_k h1 h2 n s]
theorem RG_k {rf rt : Nat → Nat} {r : Nat} {σ σ' τ τ' : zMu} (h : RG rf rt r σ τ) (e1 : σ' 13 = σ 13) (e2 : σ' 14 = σ 14) (e3 : τ' 126 = τ 126) (e4 : τ' 127 = τ 127) : RG rf rt r σ' τ' := fun i hi => by
  rw [e1, e2, e3, e4]
  exact h i hi
theorem rounds_eq {c r : Nat} {rf rt : Nat → Nat} (hr : r ≤ 60) : ∀ (n i : Nat) (σ τ : zMu), i + n ≤ 24 → RR c (500 + 1690 * i) σ τ → RS c σ → RG rf rt r σ τ → 24 < zcnt (fun p => ¬ τ 130 (24 * c + p) = 0) 24 + n →
    dws rf rt c r n τ ∧ RR c 41060 (zit (clay rf rt c r) 0 n (nI 1, σ)).2 (dwh rf rt c r n τ) ∧ RS c (zit (clay rf rt c r) 0 n (nI 1, σ)).2
  | 0, i, σ, τ, _, _, _, _, h => by
    have := zcnt_n (fun p => ¬ τ 130 (24 * c + p) = 0) 24
    omega
  | n + 1, i, σ, τ, hin, hR, hS, hL, h => by
    obtain ⟨q1, q2, q3, q4⟩ := round_eq (B := 500 + 1690 * i) hr (by omega) hR hS hL
    have hcl : clay rf rt c r 0 (nI 1, σ) = zit (cset c) 0 24 (nI 0, cgather rf rt c r σ) := by
      unfold clay
      exact if_neg (show ¬ nI 1 = 0 by decide)
    have hsh : zit (clay rf rt c r) 0 (n + 1) (nI 1, σ) = zit (clay rf rt c r) 0 n (zit (cset c) 0 24 (nI 0, cgather rf rt c r σ)) := by
      rw [zit_sh (fun _ _ _ => rfl), hcl]
    rw [hsh, dws, dwh]
    have oσ : ∀ k, k ≠ 16 ∧ k ≠ 17 ∧ k ≠ 18 → k ≠ 34 + 7 * c ∧ k ≠ 35 + 7 * c ∧ k ≠ 37 + 7 * c → (zit (cset c) 0 24 (nI 0, cgather rf rt c r σ)).2 k = σ k := fun k h1 h2 => by
      rw [cset_o h2]
      exact cgather_o h1 σ
    have oτ : ∀ k, (k ≠ 130 ∧ k ≠ 131 ∧ k ≠ 132) ∧ k ≠ 141 ∧ k ≠ 142 ∧ k ≠ 143 ∧ k ≠ 144 → (drounds rf rt c r τ).2 k = τ k := fun k h => drounds_o h
    obtain ⟨S, hS9⟩ : ∃ S, S = zit (cset c) 0 24 (nI 0, cgather rf rt c r σ) := ⟨_, rfl⟩
    obtain ⟨T, hT9⟩ : ∃ T, T = drounds rf rt c r τ := ⟨_, rfl⟩
    rw [← hS9, ← hT9] at q1
    rw [← hS9, ← hT9] at q2
    rw [← hS9] at q3
    rw [← hT9] at q4
    rw [← hS9] at oσ
    rw [← hT9] at oτ
    rw [← hS9, ← hT9]
    rcases q4 with q4 | ⟨q4, q5⟩
    · have hst : ∀ k, zit (clay rf rt c r) 0 (0 + k) S = S := zit_stay (f := clay rf rt c r) (a := 0) (m := 0) (s := S) (s0 := S) rfl (fun i => by unfold clay; exact if_pos (q1.trans q4))
      have h9 := hst n
      rw [Nat.zero_add] at h9
      rw [if_pos q4, h9]
      exact ⟨Or.inl q4, RR_m q2 (by omega), q3⟩
    · have n0 : ¬ T.1 = 0 := by rw [q4]; decide
      rw [if_neg n0]
      have eS : S = (nI 1, S.2) := Prod.ext (q1.trans q4) rfl
      obtain ⟨i1, i2, i3⟩ := rounds_eq hr n (i + 1) S.2 T.2 (by omega) (RR_m q2 (by omega)) q3 (RG_k hL (oσ 13 (by omega) (by omega)) (oσ 14 (by omega) (by omega)) (oτ 126 (by omega)) (oτ 127 (by omega))) (by omega)
      rw [← eS] at i2 i3
      exact ⟨Or.inr i1, i2, i3⟩
theorem dr3_2 {c : Nat} (τ : zMu) (n : Nat) : (zit (dr3 c) 0 n (nI 0, τ)).2 = zit (dr31 c) 0 n τ := by rw [dr3_eq]
theorem drounds_2 {rf rt : Nat → Nat} {c r : Nat} {τ : zMu} : (drounds rf rt c r τ).2 = zit (dr31 c) 0 24 (zit (dr2 rf rt c) 0 r (zit (dr1 c) 0 24 τ)) := by
  unfold drounds
  rw [dr3_2]
theorem dwh_p {rf rt : Nat → Nat} {c r k j : Nat} (h : k < 141) (h2 : ¬ ((k = 130 ∨ k = 131 ∨ k = 132) ∧ 24 * c ≤ j ∧ j < 24 * c + 24)) : ∀ (n : Nat) (τ : zMu), dwh rf rt c r n τ k j = τ k j
  | 0, _ => rfl
  | n + 1, τ => by
    have e : (drounds rf rt c r τ).2 k j = τ k j := by
      rw [drounds_2, (dr31_f _).2 k j h2, zit_keep (dr2_o (by omega)), zit_keep (dr1_o (by omega))]
    rw [dwh]
    split
    · exact e
    · rw [dwh_p h h2 n, e]
theorem dwh_b {rf rt : Nat → Nat} {c r : Nat} (hc : c < 12) : ∀ (n : Nat) (τ : zMu), (∀ i, i < 288 → τ 130 i = 0 ∨ τ 130 i = 1) → ∀ i, i < 288 → dwh rf rt c r n τ 130 i = 0 ∨ dwh rf rt c r n τ 130 i = 1
  | 0, _, h => h
  | n + 1, τ, h => by
    rw [dwh]
    split
    · exact drounds_B hc h
    · exact dwh_b hc n _ (drounds_B hc h)
/-! chart: the start -/
theorem cchp_f {c : Nat} (μ : zMu) : (∀ p, p < 24 → zit (cchp c) 0 24 μ (34 + 7 * c) p = 100000 ∧ zit (cchp c) 0 24 μ (35 + 7 * c) p = 100000 ∧ zit (cchp c) 0 24 μ (36 + 7 * c) p = μ 5 p ∧ zit (cchp c) 0 24 μ (37 + 7 * c) p = -1) ∧
    ∀ k j, (k < 34 + 7 * c ∨ 37 + 7 * c < k) → zit (cchp c) 0 24 μ k j = μ k j := by
  have h := zit_p0 (f := cchp c) (a := 0) (N := 24) (S := fun k => k = 34 + 7 * c ∨ k = 35 + 7 * c ∨ k = 36 + 7 * c ∨ k = 37 + 7 * c) (fun i ν k j hh => by
    have h8 : ¬ ((k = 34 + 7 * c ∨ k = 35 + 7 * c ∨ k = 37 + 7 * c) ∧ j = i) := fun q => hh ⟨(by have := q.1; omega : k = 34 + 7 * c ∨ k = 35 + 7 * c ∨ k = 36 + 7 * c ∨ k = 37 + 7 * c), q.2⟩
    unfold cchp
    by_cases e : j = i
    · rw [zu_o (fun q => hh ⟨Or.inr (Or.inr (Or.inl q)), e⟩), zput_n h8]
    · rw [zu_o2 e, zput_n h8]) (fun i ν ν' _ _ hag k hk => by
    have e5 : ν 5 i = ν' 5 i := hag _ _ (fun _ => Or.inl rfl)
    unfold cchp
    rcases hk with rfl | rfl | rfl | rfl
    · rw [zu_o (by omega), zput_x, zu_o (by omega), zput_x]
    · rw [zu_o (by omega), zput_y, zu_o (by omega), zput_y]
    · rw [zu_s, zu_s, zput_n (fun q => by have := q.1; omega), zput_n (fun q => by have := q.1; omega), e5]
    · rw [zu_o (by omega), zput_z, zu_o (by omega), zput_z]) μ 24 (Nat.le_refl _)
  refine ⟨fun p hp => ⟨?_, ?_, ?_, ?_⟩, fun k j hj => h.2 k j (fun s => absurd (show k = 34 + 7 * c ∨ k = 35 + 7 * c ∨ k = 36 + 7 * c ∨ k = 37 + 7 * c from s.1) (by omega))⟩
  · rw [h.1 (34 + 7 * c) p (Or.inl rfl) (Nat.zero_le _) (by omega), cchp, zu_o (by omega), zput_x]
  · rw [h.1 (35 + 7 * c) p (Or.inr (Or.inl rfl)) (Nat.zero_le _) (by omega), cchp, zu_o (by omega), zput_y]
  · rw [h.1 (36 + 7 * c) p (Or.inr (Or.inr (Or.inl rfl))) (Nat.zero_le _) (by omega), cchp, zu_s, zput_n (fun q => by have := q.1; omega)]
  · rw [h.1 (37 + 7 * c) p (Or.inr (Or.inr (Or.inr rfl))) (Nat.zero_le _) (by omega), cchp, zu_o (by omega), zput_z]
/-- a row is filled with one number -/
theorem zfill_f {A q n : Nat} {x : Int32} {f : Nat → zMu → zMu} (hf : ∀ i ν, f i ν = zu ν A (q + i) x) (μ : zMu) : (∀ i, i < n → zit f 0 n μ A (q + i) = x) ∧ ∀ k j, ¬ (k = A ∧ q ≤ j ∧ j < q + n) → zit f 0 n μ k j = μ k j := by
  have h := zit_pt (f := f) (a := 0) (N := n) (q := q) (S := fun k => k = A) (fun i ν k j hh => by
    rw [hf]
    by_cases e : k = A
    · exact zu_o2 (fun s => hh ⟨e, s⟩)
    · exact zu_o e) (fun i ν ν' _ hi hag k hk => by
    have hk9 : k = A := hk
    subst hk9
    rw [hf, hf, zu_s, zu_s]) μ n (Nat.le_refl _)
  refine ⟨fun i hi => ?_, fun k j hj => h.2 k j (fun s => hj ⟨s.1, by have := s.2; omega⟩)⟩
  rw [h.1 A i rfl (Nat.zero_le _) (by omega), hf, zu_s]
theorem cch1_f {c : Nat} {y : Int32} (μ : zMu) : (cch1 c y μ (34 + 7 * c) 0 = μ 3 0 ∧ cch1 c y μ (35 + 7 * c) 0 = μ 4 0) ∧ (∀ p, p < 24 → 0 < p → cch1 c y μ (34 + 7 * c) p = 100000 ∧ cch1 c y μ (35 + 7 * c) p = 100000) ∧ (∀ p, p < 24 → cch1 c y μ (36 + 7 * c) p = μ 5 p ∧ cch1 c y μ (37 + 7 * c) p = -1) ∧
    cch1 c y μ (33 + 7 * c) 0 = y ∧ (∀ b, b < 3 → cch1 c y μ (38 + 7 * c) b = nI 100) ∧ ∀ k j, (k < 33 + 7 * c ∨ 38 + 7 * c < k) → cch1 c y μ k j = μ k j := by
  obtain ⟨A, hA⟩ : ∃ A, A = zu μ (33 + 7 * c) 0 y := ⟨_, rfl⟩
  have fA : ∀ q j, q ≠ 33 + 7 * c → A q j = μ q j := fun q j h => by rw [hA, zu_o h]
  obtain ⟨fB, gB⟩ := cchp_f (c := c) A
  have fC := zfill_f (A := 38 + 7 * c) (q := 0) (n := 3) (x := nI 100) (f := cchs c) (fun i ν => by rw [cchs, Nat.zero_add]) (zit (cchp c) 0 24 A)
  have e0 : cch0 c y μ = zit (cchs c) 0 3 (zit (cchp c) 0 24 A) := by rw [cch0, hA]
  have gC : ∀ k j, k ≠ 38 + 7 * c → cch0 c y μ k j = zit (cchp c) 0 24 A k j := fun k j h => by rw [e0]; exact fC.2 k j (fun s => h s.1)
  unfold cch1
  refine ⟨⟨?_, ?_⟩, fun p hp h0 => ⟨?_, ?_⟩, fun p hp => ⟨?_, ?_⟩, ?_, fun b hb => ?_, fun k j hk => ?_⟩
  · rw [zput_x, gC _ _ (by omega), gB _ _ (by omega), fA _ _ (by omega)]
  · rw [zput_y, gC _ _ (by omega), gB _ _ (by omega), fA _ _ (by omega)]
  · rw [zput_n (fun q => by have := q.2; omega), gC _ _ (by omega), (fB p hp).1]
  · rw [zput_n (fun q => by have := q.2; omega), gC _ _ (by omega), (fB p hp).2.1]
  · rw [zput_n (fun q => by have := q.1; omega), gC _ _ (by omega), (fB p hp).2.2.1, fA _ _ (by omega)]
  · by_cases e : p = 0
    · rw [e, zput_z]
    · rw [zput_n (fun q => e q.2), gC _ _ (by omega), (fB p hp).2.2.2]
  · rw [zput_n (fun q => by have := q.1; omega), gC _ _ (by omega), gB _ _ (by omega), hA, zu_s]
  · have h := fC.1 b hb
    rw [Nat.zero_add, ← e0] at h
    rw [zput_n (fun q => by have := q.1; omega), h]
  · rw [zput_n (fun q => by have := q.1; omega), gC _ _ (by omega), gB _ _ (by omega), fA _ _ (by omega)]
theorem dc1_f {c : Nat} (μ : zMu) : (∀ p, p < 24 → zit (dc1 c) 0 24 μ 130 (24 * c + p) = (if p = 0 then nI 1 else nI 0) ∧ zit (dc1 c) 0 24 μ 133 (24 * c + p) = μ 120 p ∧ zit (dc1 c) 0 24 μ 134 (24 * c + p) = -1) ∧
    ∀ k j, ¬ ((k = 130 ∨ k = 133 ∨ k = 134) ∧ 24 * c ≤ j ∧ j < 24 * c + 24) → zit (dc1 c) 0 24 μ k j = μ k j := by
  have h := zit_pt (f := dc1 c) (a := 0) (N := 24) (q := 24 * c) (S := fun k => k = 130 ∨ k = 133 ∨ k = 134) (fun i ν k j hh => by
    unfold dc1
    by_cases e : j = 24 * c + i
    · rw [zu_o (fun q => hh ⟨Or.inr (Or.inr q), e⟩), zu_o (fun q => hh ⟨Or.inr (Or.inl q), e⟩), zu_o (fun q => hh ⟨Or.inl q, e⟩)]
    · rw [zu_o2 e, zu_o2 e, zu_o2 e]) (fun i ν ν' _ _ hag k hk => by
    have e0 : ν 120 i = ν' 120 i := hag _ _ (fun s => absurd (show 120 = 130 ∨ 120 = 133 ∨ 120 = 134 from s) (by omega))
    unfold dc1
    rcases hk with rfl | rfl | rfl
    · rw [zu_o (by omega), zu_o (by omega), zu_s, zu_o (by omega), zu_o (by omega), zu_s]
    · rw [zu_o (by omega), zu_s, zu_o (by omega), zu_s, e0]
    · rw [zu_s, zu_s]) μ 24 (Nat.le_refl _)
  refine ⟨fun p hp => ⟨?_, ?_, ?_⟩, fun k j hj => h.2 k j (fun s => hj ⟨s.1, by have := s.2; omega⟩)⟩
  · rw [h.1 130 p (Or.inl rfl) (Nat.zero_le _) (by omega), dc1, zu_o (by omega), zu_o (by omega), zu_s]
  · rw [h.1 133 p (Or.inr (Or.inl rfl)) (Nat.zero_le _) (by omega), dc1, zu_o (by omega), zu_s]
  · rw [h.1 134 p (Or.inr (Or.inr rfl)) (Nat.zero_le _) (by omega), dc1, zu_s]
theorem dch2_f {c : Nat} (μ : zMu) : (∀ p, p < 24 → dch2 c μ 130 (24 * c + p) = (if p = 0 then nI 1 else nI 0) ∧ dch2 c μ 133 (24 * c + p) = μ 120 p ∧ dch2 c μ 134 (24 * c + p) = -1) ∧ (dch2 c μ 131 (24 * c + 0) = μ 118 0 ∧ dch2 c μ 132 (24 * c + 0) = μ 119 0) ∧ (∀ b, b < 3 → dch2 c μ 129 (3 * c + b) = nI 100) ∧
    ∀ k j, ¬ (k = 129 ∧ 3 * c ≤ j ∧ j < 3 * c + 3) → ¬ ((130 ≤ k ∧ k ≤ 134) ∧ 24 * c ≤ j ∧ j < 24 * c + 24) → dch2 c μ k j = μ k j := by
  obtain ⟨fB, gB⟩ := dc1_f (c := c) μ
  have g0 : ∀ k, k ≠ 130 ∧ k ≠ 133 ∧ k ≠ 134 → dch0 c μ k = μ k := fun k h => by rw [dch0, zit_keep (dc1_o h)]
  have fC := zfill_f (A := 129) (q := 3 * c) (n := 3) (x := nI 100) (f := dc2 c) (fun i ν => rfl) (dch1 c μ)
  have gC : ∀ k j, k ≠ 129 → dch2 c μ k j = dch1 c μ k j := fun k j h => by rw [dch2]; exact fC.2 k j (fun s => h s.1)
  have g1 : ∀ k j, k ≠ 131 → k ≠ 132 → dch1 c μ k j = dch0 c μ k j := fun k j h1 h2 => by rw [dch1, zu_o h2, zu_o h1]
  refine ⟨fun p hp => ⟨?_, ?_, ?_⟩, ⟨?_, ?_⟩, fun b hb => ?_, fun k j h1 h2 => ?_⟩
  · rw [gC _ _ (by omega), g1 _ _ (by omega) (by omega), dch0, (fB p hp).1]
  · rw [gC _ _ (by omega), g1 _ _ (by omega) (by omega), dch0, (fB p hp).2.1]
  · rw [gC _ _ (by omega), g1 _ _ (by omega) (by omega), dch0, (fB p hp).2.2]
  · rw [gC _ _ (by omega), dch1, zu_o (by omega), zu_s, g0 118 (by omega)]
  · rw [gC _ _ (by omega), dch1, zu_s, g0 119 (by omega)]
  · rw [dch2]; exact fC.1 b hb
  · rw [dch2, fC.2 k j h1, dch1]
    have e1 : zu (zu (dch0 c μ) 131 (24 * c + 0) (dch0 c μ 118 0)) 132 (24 * c + 0) (dch0 c μ 119 0) k j = dch0 c μ k j := by
      by_cases e : j = 24 * c + 0
      · rw [zu_o (fun s => h2 (by omega)), zu_o (fun s => h2 (by omega))]
      · rw [zu_o2 e, zu_o2 e]
    rw [e1, dch0]
    exact gB k j (fun s => h2 ⟨by have := s.1; omega, s.2⟩)
