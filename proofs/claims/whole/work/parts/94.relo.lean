/-! chart: what a round puts -/
def cset1 (c i : Nat) (ν : zMu) : zMu := if ν 18 i ≤ 0 then ν else zput ν c i (ν 16 i / ν 18 i) (ν 17 i / ν 18 i) (-1)
def dr31 (c i : Nat) (ν : zMu) : zMu := if ν 144 i ≤ 0 then ν else zu (zu (zu ν 130 (24 * c + i) (nI 1)) 131 (24 * c + i) (ν 142 i / ν 144 i)) 132 (24 * c + i) (ν 143 i / ν 144 i)
noncomputable def zfl1 (g : Nat → Int32) (n : Nat) : Int32 := @ite Int32 (∀ i, i < n → g i ≤ 0) (Classical.propDecidable _) (nI 0) (nI 1)
theorem zfl1_0 {g : Nat → Int32} {n : Nat} (h : ∀ i, i < n → g i ≤ 0) : zfl1 g n = nI 0 := by unfold zfl1; exact if_pos h
theorem zfl1_1 {g : Nat → Int32} {n : Nat} (h : ¬ ∀ i, i < n → g i ≤ 0) : zfl1 g n = nI 1 := by unfold zfl1; exact if_neg h
theorem zfl1_s {g : Nat → Int32} {n : Nat} : zfl1 g (n + 1) = @ite Int32 (g n ≤ 0) (Classical.propDecidable _) (zfl1 g n) (nI 1) := by
  by_cases h : g n ≤ 0
  · rw [if_pos h]
    by_cases h9 : ∀ i, i < n → g i ≤ 0
    · rw [zfl1_0 h9, zfl1_0 (fun i hi => by
        by_cases e : i = n
        · rw [e]; exact h
        · exact h9 i (by omega))]
    · rw [zfl1_1 h9, zfl1_1 (fun q => h9 (fun i hi => q i (by omega)))]
  · rw [if_neg h, zfl1_1 (fun q => h (q n (by omega)))]
theorem zfl1_c {g g' : Nat → Int32} {n : Nat} (h : ∀ i, i < n → g i = g' i) : zfl1 g n = zfl1 g' n := by
  by_cases h9 : ∀ i, i < n → g i ≤ 0
  · rw [zfl1_0 h9, zfl1_0 (fun i hi => by rw [← h i hi]; exact h9 i hi)]
  · rw [zfl1_1 h9, zfl1_1 (fun q => h9 (fun i hi => by rw [h i hi]; exact q i hi))]
theorem cset1_o {c k : Nat} (h : k ≠ 34 + 7 * c ∧ k ≠ 35 + 7 * c ∧ k ≠ 37 + 7 * c) (i : Nat) (ν : zMu) : cset1 c i ν k = ν k := by
  unfold cset1
  split
  · rfl
  · exact zput_o h
theorem dr31_o {c k : Nat} (h : k ≠ 130 ∧ k ≠ 131 ∧ k ≠ 132) (i : Nat) (ν : zMu) : dr31 c i ν k = ν k := by
  unfold dr31
  split
  · rfl
  · rw [zu_r h.2.2, zu_r h.2.1, zu_r h.1]
theorem cset_1 {c n : Nat} {s : Int32} {ν : zMu} : cset c n (s, ν) = (if ν 18 n ≤ 0 then s else nI 1, cset1 c n ν) := by
  unfold cset cset1
  by_cases h : ν 18 n ≤ 0
  · exact (if_pos h).trans (Prod.ext (if_pos h).symm (if_pos h).symm)
  · exact (if_neg h).trans (Prod.ext (if_neg h).symm (if_neg h).symm)
theorem dr3_1 {c n : Nat} {s : Int32} {ν : zMu} : dr3 c n (s, ν) = (if ν 144 n ≤ 0 then s else nI 1, dr31 c n ν) := by
  unfold dr3 dr31
  by_cases h : ν 144 n ≤ 0
  · exact (if_pos h).trans (Prod.ext (if_pos h).symm (if_pos h).symm)
  · exact (if_neg h).trans (Prod.ext (if_neg h).symm (if_neg h).symm)
theorem cset_eq {c : Nat} (σ : zMu) : ∀ n, zit (cset c) 0 n (nI 0, σ) = (zfl1 (σ 18) n, zit (cset1 c) 0 n σ)
  | 0 => by
    have h : zfl1 (σ 18) 0 = nI 0 := zfl1_0 (fun i hi => absurd hi (Nat.not_lt_zero i))
    rw [h]
    rfl
  | n + 1 => by
    have e : zit (cset1 c) 0 n σ 18 = σ 18 := zit_keep (cset1_o (by omega)) σ n
    rw [zit_s, zit_s, cset_eq σ n, Nat.zero_add, zfl1_s]
    rw [cset_1]
    exact Prod.ext (zifc (by rw [e]) rfl rfl) rfl
theorem dr3_eq {c : Nat} (τ : zMu) : ∀ n, zit (dr3 c) 0 n (nI 0, τ) = (zfl1 (τ 144) n, zit (dr31 c) 0 n τ)
  | 0 => by
    have h : zfl1 (τ 144) 0 = nI 0 := zfl1_0 (fun i hi => absurd hi (Nat.not_lt_zero i))
    rw [h]
    rfl
  | n + 1 => by
    have e : zit (dr31 c) 0 n τ 144 = τ 144 := zit_keep (dr31_o (by omega)) τ n
    rw [zit_s, zit_s, dr3_eq τ n, Nat.zero_add, zfl1_s]
    rw [dr3_1]
    exact Prod.ext (zifc (by rw [e]) rfl rfl) rfl
theorem cset1_f {c : Nat} (σ : zMu) : (∀ p, p < 24 → (σ 18 p ≤ 0 → zit (cset1 c) 0 24 σ (34 + 7 * c) p = σ (34 + 7 * c) p ∧ zit (cset1 c) 0 24 σ (35 + 7 * c) p = σ (35 + 7 * c) p ∧ zit (cset1 c) 0 24 σ (37 + 7 * c) p = σ (37 + 7 * c) p) ∧
      (¬ σ 18 p ≤ 0 → zit (cset1 c) 0 24 σ (34 + 7 * c) p = σ 16 p / σ 18 p ∧ zit (cset1 c) 0 24 σ (35 + 7 * c) p = σ 17 p / σ 18 p ∧ zit (cset1 c) 0 24 σ (37 + 7 * c) p = -1)) := by
  have h := zit_p0 (f := cset1 c) (a := 0) (N := 24) (S := fun k => k = 34 + 7 * c ∨ k = 35 + 7 * c ∨ k = 37 + 7 * c) (fun i ν k j hh => by
    unfold cset1
    split
    · rfl
    · exact zput_n hh) (fun i ν ν' _ _ hag k hk => by
    have e34 : ν (34 + 7 * c) i = ν' (34 + 7 * c) i := hag _ _ (fun _ => Or.inl rfl)
    have e35 : ν (35 + 7 * c) i = ν' (35 + 7 * c) i := hag _ _ (fun _ => Or.inl rfl)
    have e37 : ν (37 + 7 * c) i = ν' (37 + 7 * c) i := hag _ _ (fun _ => Or.inl rfl)
    have e16 : ν 16 i = ν' 16 i := hag _ _ (fun _ => Or.inl rfl)
    have e17 : ν 17 i = ν' 17 i := hag _ _ (fun _ => Or.inl rfl)
    have e18 : ν 18 i = ν' 18 i := hag _ _ (fun _ => Or.inl rfl)
    unfold cset1
    by_cases h0 : ν' 18 i ≤ 0
    · have h1 : ν 18 i ≤ 0 := by rw [e18]; exact h0
      rw [if_pos h0, if_pos h1]
      rcases hk with rfl | rfl | rfl
      · exact e34
      · exact e35
      · exact e37
    · have h1 : ¬ ν 18 i ≤ 0 := by rw [e18]; exact h0
      rw [if_neg h0, if_neg h1, e16, e17, e18]
      rcases hk with rfl | rfl | rfl
      · rw [zput_x, zput_x]
      · rw [zput_y, zput_y]
      · rw [zput_z, zput_z]) σ 24 (Nat.le_refl _)
  intro p hp
  have h1 := h.1 (34 + 7 * c) p (Or.inl rfl) (Nat.zero_le _) (by omega)
  have h2 := h.1 (35 + 7 * c) p (Or.inr (Or.inl rfl)) (Nat.zero_le _) (by omega)
  have h3 := h.1 (37 + 7 * c) p (Or.inr (Or.inr rfl)) (Nat.zero_le _) (by omega)
  rw [h1, h2, h3]
  unfold cset1
  refine ⟨fun q => ?_, fun q => ?_⟩
  · rw [if_pos q]
    exact ⟨rfl, rfl, rfl⟩
  · rw [if_neg q, zput_x, zput_y, zput_z]
    exact ⟨rfl, rfl, rfl⟩
theorem dr31_f {c : Nat} (τ : zMu) : (∀ p, p < 24 → (τ 144 p ≤ 0 → zit (dr31 c) 0 24 τ 130 (24 * c + p) = τ 130 (24 * c + p) ∧ zit (dr31 c) 0 24 τ 131 (24 * c + p) = τ 131 (24 * c + p) ∧ zit (dr31 c) 0 24 τ 132 (24 * c + p) = τ 132 (24 * c + p)) ∧
      (¬ τ 144 p ≤ 0 → zit (dr31 c) 0 24 τ 130 (24 * c + p) = nI 1 ∧ zit (dr31 c) 0 24 τ 131 (24 * c + p) = τ 142 p / τ 144 p ∧ zit (dr31 c) 0 24 τ 132 (24 * c + p) = τ 143 p / τ 144 p)) ∧
    ∀ k j, ¬ ((k = 130 ∨ k = 131 ∨ k = 132) ∧ 24 * c ≤ j ∧ j < 24 * c + 24) → zit (dr31 c) 0 24 τ k j = τ k j := by
  have h := zit_pt (f := dr31 c) (a := 0) (N := 24) (q := 24 * c) (S := fun k => k = 130 ∨ k = 131 ∨ k = 132) (fun i ν k j hh => by
    unfold dr31
    split
    · rfl
    · by_cases e : j = 24 * c + i
      · rw [zu_o (fun q => hh ⟨Or.inr (Or.inr q), e⟩), zu_o (fun q => hh ⟨Or.inr (Or.inl q), e⟩), zu_o (fun q => hh ⟨Or.inl q, e⟩)]
      · rw [zu_o2 e, zu_o2 e, zu_o2 e]) (fun i ν ν' _ _ hag k hk => by
    have e130 : ν 130 (24 * c + i) = ν' 130 (24 * c + i) := hag _ _ (fun _ => Or.inl rfl)
    have e131 : ν 131 (24 * c + i) = ν' 131 (24 * c + i) := hag _ _ (fun _ => Or.inl rfl)
    have e132 : ν 132 (24 * c + i) = ν' 132 (24 * c + i) := hag _ _ (fun _ => Or.inl rfl)
    have e142 : ν 142 i = ν' 142 i := hag _ _ (fun s => absurd (show 142 = 130 ∨ 142 = 131 ∨ 142 = 132 from s) (by omega))
    have e143 : ν 143 i = ν' 143 i := hag _ _ (fun s => absurd (show 143 = 130 ∨ 143 = 131 ∨ 143 = 132 from s) (by omega))
    have e144 : ν 144 i = ν' 144 i := hag _ _ (fun s => absurd (show 144 = 130 ∨ 144 = 131 ∨ 144 = 132 from s) (by omega))
    unfold dr31
    by_cases h0 : ν' 144 i ≤ 0
    · have h1 : ν 144 i ≤ 0 := by rw [e144]; exact h0
      rw [if_pos h0, if_pos h1]
      rcases hk with rfl | rfl | rfl
      · exact e130
      · exact e131
      · exact e132
    · have h1 : ¬ ν 144 i ≤ 0 := by rw [e144]; exact h0
      rw [if_neg h0, if_neg h1, e142, e143, e144]
      rcases hk with rfl | rfl | rfl
      · rw [zu_o (by omega), zu_o (by omega), zu_s, zu_o (by omega), zu_o (by omega), zu_s]
      · rw [zu_o (by omega), zu_s, zu_o (by omega), zu_s]
      · rw [zu_s, zu_s]) τ 24 (Nat.le_refl _)
  refine ⟨fun p hp => ?_, fun k j hj => h.2 k j (fun s => hj ⟨s.1, by have := s.2; omega⟩)⟩
  have h1 := h.1 130 p (Or.inl rfl) (Nat.zero_le _) (by omega)
  have h2 := h.1 131 p (Or.inr (Or.inl rfl)) (Nat.zero_le _) (by omega)
  have h3 := h.1 132 p (Or.inr (Or.inr rfl)) (Nat.zero_le _) (by omega)
  rw [h1, h2, h3]
  unfold dr31
  refine ⟨fun q => ?_, fun q => ?_⟩
  · rw [if_pos q]
    exact ⟨rfl, rfl, rfl⟩
  · rw [if_neg q]
    exact ⟨by rw [zu_o (by omega), zu_o (by omega), zu_s], by rw [zu_o (by omega), zu_s], zu_s⟩
/-- one round, in both -/
theorem round_eq {c B r : Nat} {rf rt : Nat → Nat} {σ τ : zMu} (hr : r ≤ 60) (hB : B + 1690 ≤ 41060) (hR : RR c B σ τ) (hS : RS c σ) (hL : RG rf rt r σ τ) :
    (zit (cset c) 0 24 (nI 0, cgather rf rt c r σ)).1 = (drounds rf rt c r τ).1 ∧ RR c (B + 1690) (zit (cset c) 0 24 (nI 0, cgather rf rt c r σ)).2 (drounds rf rt c r τ).2 ∧ RS c (zit (cset c) 0 24 (nI 0, cgather rf rt c r σ)).2 ∧
    ((drounds rf rt c r τ).1 = 0 ∨ ((drounds rf rt c r τ).1 = nI 1 ∧ zcnt (fun p => ¬ τ 130 (24 * c + p) = 0) 24 < zcnt (fun p => ¬ (drounds rf rt c r τ).2 130 (24 * c + p) = 0) 24)) := by
  have hG := gather hr hB hR hL
  have oσ : ∀ k, k ≠ 16 ∧ k ≠ 17 ∧ k ≠ 18 → cgather rf rt c r σ k = σ k := fun k h => cgather_o h σ
  have oτ : ∀ k, k ≠ 141 ∧ k ≠ 142 ∧ k ≠ 143 ∧ k ≠ 144 → zit (dr2 rf rt c) 0 r (zit (dr1 c) 0 24 τ) k = τ k := fun k h => by rw [zit_keep (dr2_o ⟨h.2.1, h.2.2.1, h.2.2.2⟩), zit_keep (dr1_o h)]
  unfold drounds
  obtain ⟨σ1, hσ1⟩ : ∃ σ1, σ1 = cgather rf rt c r σ := ⟨_, rfl⟩
  obtain ⟨τ1, hτ1⟩ : ∃ τ1, τ1 = zit (dr2 rf rt c) 0 r (zit (dr1 c) 0 24 τ) := ⟨_, rfl⟩
  rw [← hσ1, ← hτ1] at hG
  rw [← hσ1] at oσ
  rw [← hτ1] at oτ
  rw [← hσ1, ← hτ1, cset_eq, dr3_eq]
  dsimp only
  have hfl : zfl1 (σ1 18) 24 = zfl1 (τ1 144) 24 := zfl1_c (fun p hp => by
    obtain ⟨m, -, ⟨h2, h3⟩, -⟩ := hG p hp
    rw [h2, h3])
  have fσ := cset1_f (c := c) σ1
  have fτ := (dr31_f (c := c) τ1).1
  have hrow : ∀ p, p < 24 → ((¬ zit (dr31 c) 0 24 τ1 130 (24 * c + p) = 0 ∧ (zit (cset1 c) 0 24 σ1 (34 + 7 * c) p = zit (dr31 c) 0 24 τ1 131 (24 * c + p) ∧ zit (cset1 c) 0 24 σ1 (35 + 7 * c) p = zit (dr31 c) 0 24 τ1 132 (24 * c + p)) ∧ rb (B + 1690) (zit (cset1 c) 0 24 σ1 (34 + 7 * c) p) ∧ rb (B + 1690) (zit (cset1 c) 0 24 σ1 (35 + 7 * c) p)) ∨ (zit (dr31 c) 0 24 τ1 130 (24 * c + p) = 0 ∧ zit (cset1 c) 0 24 σ1 (34 + 7 * c) p = 100000 ∧ zit (cset1 c) 0 24 σ1 (35 + 7 * c) p = 100000)) ∧
      zit (cset1 c) 0 24 σ1 (37 + 7 * c) p = -1 ∧ (¬ τ 130 (24 * c + p) = 0 → ¬ zit (dr31 c) 0 24 τ1 130 (24 * c + p) = 0) ∧ (¬ τ1 144 p ≤ 0 → τ 130 (24 * c + p) = 0 ∧ ¬ zit (dr31 c) 0 24 τ1 130 (24 * c + p) = 0) := by
    intro p hp
    obtain ⟨m, h1, ⟨h2, h3⟩, ⟨h4, h5⟩, ⟨h6, h7⟩, h8⟩ := hG p hp
    have hm : m < 2147483648 := by omega
    by_cases hm0 : m = 0
    · have z1 : σ1 18 p ≤ 0 := by rw [h2]; exact (z0l hm).mpr hm0
      have z2 : τ1 144 p ≤ 0 := by rw [h3]; exact (z0l hm).mpr hm0
      obtain ⟨a1, a2, a3⟩ := (fσ p hp).1 z1
      obtain ⟨b1, b2, b3⟩ := (fτ p hp).1 z2
      rw [a1, a2, a3, b1, b2, b3, oσ (34 + 7 * c) (by omega), oσ (35 + 7 * c) (by omega), oσ (37 + 7 * c) (by omega), oτ 130 (by omega), oτ 131 (by omega), oτ 132 (by omega)]
      refine ⟨?_, hS p hp, id, fun q => absurd z2 q⟩
      rcases hR p hp with ⟨c0, c1, c2, c3⟩ | q
      · exact Or.inl ⟨c0, c1, rb_m c2 (by omega), rb_m c3 (by omega)⟩
      · exact Or.inr q
    · have z1 : ¬ σ1 18 p ≤ 0 := by rw [h2]; exact fun q => hm0 ((z0l hm).mp q)
      have z2 : ¬ τ1 144 p ≤ 0 := by rw [h3]; exact fun q => hm0 ((z0l hm).mp q)
      obtain ⟨a1, a2, a3⟩ := (fσ p hp).2 z1
      obtain ⟨b1, b2, b3⟩ := (fτ p hp).2 z2
      have w0 := h8 (by omega)
      rw [oτ 130 (by omega)] at w0
      have n1 : ¬ nI 1 = 0 := by decide
      have hdiv : m * (B + 1690) / m ≤ B + 1690 := by rw [Nat.mul_div_cancel_left _ (by omega)]; exact Nat.le_refl _
      rw [a1, a2, a3, b1, b2, b3, h4, h5, h2, h3]
      rw [h4] at h6
      rw [h5] at h7
      exact ⟨Or.inl ⟨n1, ⟨rfl, rfl⟩, rb_div h6 hm hdiv, rb_div h7 hm hdiv⟩, rfl, fun q => absurd w0 q, fun _ => ⟨w0, n1⟩⟩
  refine ⟨hfl, fun p hp => (hrow p hp).1, fun p hp => (hrow p hp).2.1, ?_⟩
  by_cases h9 : ∀ p, p < 24 → τ1 144 p ≤ 0
  · exact Or.inl (by rw [zfl1_0 h9]; rfl)
  · refine Or.inr ⟨zfl1_1 h9, ?_⟩
    obtain ⟨p, hp⟩ := Classical.not_forall.mp h9
    obtain ⟨hp, hq⟩ := Classical.not_imp.mp hp
    have h10 := (hrow p hp).2.2.2 hq
    exact zcnt_lt 24 (fun i hi => (hrow i hi).2.2.1) hp (fun q => q h10.1) h10.2
