/-! chart: one round -/
def RR (c B : Nat) (σ τ : zMu) : Prop := ∀ p, p < 24 → (¬ τ 130 (24 * c + p) = 0 ∧ (σ (34 + 7 * c) p = τ 131 (24 * c + p) ∧ σ (35 + 7 * c) p = τ 132 (24 * c + p)) ∧ rb B (σ (34 + 7 * c) p) ∧ rb B (σ (35 + 7 * c) p)) ∨ (τ 130 (24 * c + p) = 0 ∧ σ (34 + 7 * c) p = 100000 ∧ σ (35 + 7 * c) p = 100000)
def RS (c : Nat) (σ : zMu) : Prop := ∀ p, p < 24 → σ (37 + 7 * c) p = -1
def RG (rf rt : Nat → Nat) (r : Nat) (σ τ : zMu) : Prop := ∀ i, i < r → (rf i < 24 ∧ rt i < 24) ∧ (σ 13 i = τ 126 i ∧ σ 14 i = τ 127 i) ∧ rb 1690 (σ 13 i) ∧ rb 1690 (σ 14 i)
/-- what a round has gathered -/
def GG (c B j : Nat) (σ τ : zMu) : Prop := ∀ p, p < 24 → ∃ m, m ≤ j ∧ (σ 18 p = nI m ∧ τ 144 p = nI m) ∧ (σ 16 p = τ 142 p ∧ σ 17 p = τ 143 p) ∧ (rb (m * B) (σ 16 p) ∧ rb (m * B) (σ 17 p)) ∧ (0 < m → τ 130 (24 * c + p) = 0)
theorem RR_m {c B B' : Nat} {σ τ : zMu} (h : RR c B σ τ) (hB : B ≤ B') : RR c B' σ τ := fun p hp => by
  rcases h p hp with ⟨a0, a1, a2, a3⟩ | a
  · exact Or.inl ⟨a0, a1, rb_m a2 hB, rb_m a3 hB⟩
  · exact Or.inr a
theorem RR_k {c B p : Nat} {σ τ : zMu} (hB : B < 100000) (h : RR c B σ τ) (hp : p < 24) : zkn σ c p ↔ ¬ τ 130 (24 * c + p) = 0 := by
  rcases h p hp with ⟨a0, -, a2, -⟩ | ⟨a0, a1, -⟩
  · exact ⟨fun _ => a0, fun _ => rb_kn hB a2⟩
  · exact ⟨fun q => absurd a1 q, fun q => absurd a0 q⟩
theorem GG_s {c B j : Nat} {σ τ : zMu} (h : GG c B j σ τ) : GG c B (j + 1) σ τ := fun p hp => by
  obtain ⟨m, h1, h2⟩ := h p hp
  exact ⟨m, by omega, h2⟩
theorem GG_g {c B j p : Nat} {σ τ : zMu} {x y : Int32} (h : GG c B j σ τ) (hj : j < 60) (hB : B ≤ 41060) (h0 : τ 130 (24 * c + p) = 0) (hx : rb B x) (hy : rb B y) :
    GG c B (j + 1) (zgive σ p x y) (zu (zu (zu τ 142 p (τ 142 p + x)) 143 p (τ 143 p + y)) 144 p (τ 144 p + nI 1)) := fun q hq => by
  obtain ⟨m, h1, ⟨h2, h3⟩, ⟨h4, h5⟩, ⟨h6, h7⟩, h8⟩ := h q hq
  unfold zgive
  by_cases e : q = p
  · subst e
    have hm : (m + 1) * B ≤ 60 * 41060 := Nat.mul_le_mul (by omega) hB
    have hm2 : m * B + B ≤ (m + 1) * B := by rw [Nat.succ_mul]; exact Nat.le_refl _
    refine ⟨m + 1, by omega, ⟨?_, ?_⟩, ⟨?_, ?_⟩, ⟨?_, ?_⟩, fun _ => ?_⟩
    · rw [zu_s, h2]; exact nI_1 m
    · rw [zu_s, h3]; exact nI_1 m
    · rw [zu_o (by omega), zu_o (by omega), zu_s, zu_o (by omega), zu_o (by omega), zu_s, h4]
    · rw [zu_o (by omega), zu_s, zu_o (by omega), zu_s, h5]
    · rw [zu_o (by omega), zu_o (by omega), zu_s]
      exact rb_add h6 hx hm2 (by omega)
    · rw [zu_o (by omega), zu_s]
      exact rb_add h7 hy hm2 (by omega)
    · rw [zu_o (by omega), zu_o (by omega), zu_o (by omega)]
      exact h0
  · refine ⟨m, by omega, ⟨?_, ?_⟩, ⟨?_, ?_⟩, ⟨?_, ?_⟩, fun w => ?_⟩
    · rw [zu_o2 e, zu_o (by omega), zu_o (by omega)]; exact h2
    · rw [zu_o2 e, zu_o (by omega), zu_o (by omega)]; exact h3
    · rw [zu_o (by omega), zu_o (by omega), zu_o2 e, zu_o (by omega), zu_o (by omega), zu_o2 e]; exact h4
    · rw [zu_o (by omega), zu_o2 e, zu_o (by omega), zu_o (by omega), zu_o2 e, zu_o (by omega)]; exact h5
    · rw [zu_o (by omega), zu_o (by omega), zu_o2 e]; exact h6
    · rw [zu_o (by omega), zu_o2 e, zu_o (by omega)]; exact h7
    · rw [zu_o (by omega), zu_o (by omega), zu_o (by omega)]; exact h8 w
/-- one report, at once in both -/
theorem gat_step {c B j : Nat} {rf rt : Nat → Nat} {σ τ : zMu} (hj : j < 60) (hB : B + 1690 ≤ 41060) (hR : RR c B σ τ) (h141 : ∀ p, p < 24 → τ 141 p = τ 130 (24 * c + p)) (hG : GG c (B + 1690) j σ τ)
    (hL : (rf j < 24 ∧ rt j < 24) ∧ (σ 13 j = τ 126 j ∧ σ 14 j = τ 127 j) ∧ rb 1690 (σ 13 j) ∧ rb 1690 (σ 14 j)) : GG c (B + 1690) (j + 1) (cgat rf rt c j σ) (dr2 rf rt c j τ) := by
  obtain ⟨⟨hf, ht⟩, ⟨l1, l2⟩, l3, l4⟩ := hL
  have kf := RR_k (by omega) hR hf
  have kt := RR_k (by omega) hR ht
  have w1 := h141 (rf j) hf
  have w2 := h141 (rt j) ht
  unfold cgat dr2
  by_cases cA : zkn σ c (rf j) ∧ ¬ zkn σ c (rt j)
  · have nf : ¬ τ 130 (24 * c + rf j) = 0 := kf.mp cA.1
    have ut : τ 130 (24 * c + rt j) = 0 := Classical.not_not.mp (fun q => cA.2 (kt.mpr q))
    rw [if_pos cA]
    have e1 : dgv c (rt j) (rf j) (τ 126 j) (τ 127 j) τ = zu (zu (zu τ 142 (rt j) (τ 142 (rt j) + (τ 131 (24 * c + rf j) + τ 126 j))) 143 (rt j) (τ 143 (rt j) + (τ 132 (24 * c + rf j) + τ 127 j))) 144 (rt j) (τ 144 (rt j) + nI 1) := by
      have hc1 : τ 141 (rt j) = 0 ∧ ¬ τ 141 (rf j) = 0 := ⟨w2.trans ut, fun q => nf (w1.symm.trans q)⟩
      unfold dgv
      rw [if_pos hc1]
    have e2 : ∀ x y, dgv c (rf j) (rt j) x y (dgv c (rt j) (rf j) (τ 126 j) (τ 127 j) τ) = dgv c (rt j) (rf j) (τ 126 j) (τ 127 j) τ := fun x y => by
      have hc2 : ¬ ((dgv c (rt j) (rf j) (τ 126 j) (τ 127 j) τ) 141 (rf j) = 0 ∧ ¬ (dgv c (rt j) (rf j) (τ 126 j) (τ 127 j) τ) 141 (rt j) = 0) := fun q => by
        have q1 := q.1
        rw [dgv_o (by omega), w1] at q1
        exact nf q1
      rw [dgv, if_neg hc2]
    rw [e2, e1]
    rcases hR (rf j) hf with ⟨-, ⟨a1, a2⟩, a3, a4⟩ | ⟨a0, -⟩
    · rw [a1, a2, l1, l2]
      rw [a1] at a3
      rw [a2] at a4
      rw [l1] at l3
      rw [l2] at l4
      exact GG_g hG hj (by omega) ut (rb_add a3 l3 (Nat.le_refl _) (by omega)) (rb_add a4 l4 (Nat.le_refl _) (by omega))
    · exact absurd a0 nf
  · rw [if_neg cA]
    have e1 : dgv c (rt j) (rf j) (τ 126 j) (τ 127 j) τ = τ := by
      have hc1 : ¬ (τ 141 (rt j) = 0 ∧ ¬ τ 141 (rf j) = 0) := fun q => cA ⟨kf.mpr (fun s => q.2 (w1.trans s)), fun s => kt.mp s (w2.symm.trans q.1)⟩
      unfold dgv
      rw [if_neg hc1]
    rw [e1]
    by_cases cB : zkn σ c (rt j) ∧ ¬ zkn σ c (rf j)
    · have nt : ¬ τ 130 (24 * c + rt j) = 0 := kt.mp cB.1
      have uf : τ 130 (24 * c + rf j) = 0 := Classical.not_not.mp (fun q => cB.2 (kf.mpr q))
      rw [if_pos cB]
      have e2 : dgv c (rf j) (rt j) (-τ 126 j) (-τ 127 j) τ = zu (zu (zu τ 142 (rf j) (τ 142 (rf j) + (τ 131 (24 * c + rt j) + -τ 126 j))) 143 (rf j) (τ 143 (rf j) + (τ 132 (24 * c + rt j) + -τ 127 j))) 144 (rf j) (τ 144 (rf j) + nI 1) := by
        have hc1 : τ 141 (rf j) = 0 ∧ ¬ τ 141 (rt j) = 0 := ⟨w1.trans uf, fun q => nt (w2.symm.trans q)⟩
        unfold dgv
        rw [if_pos hc1]
      rw [e2]
      rcases hR (rt j) ht with ⟨-, ⟨a1, a2⟩, a3, a4⟩ | ⟨a0, -⟩
      · rw [a1, a2, l1, l2, Int32.sub_eq_add_neg, Int32.sub_eq_add_neg]
        rw [a1] at a3
        rw [a2] at a4
        rw [l1] at l3
        rw [l2] at l4
        exact GG_g hG hj (by omega) uf (rb_add a3 (rb_neg l3 (by omega)) (Nat.le_refl _) (by omega)) (rb_add a4 (rb_neg l4 (by omega)) (Nat.le_refl _) (by omega))
      · exact absurd a0 nt
    · rw [if_neg cB]
      have e2 : ∀ x y, dgv c (rf j) (rt j) x y τ = τ := fun x y => by
        have hc1 : ¬ (τ 141 (rf j) = 0 ∧ ¬ τ 141 (rt j) = 0) := fun q => cB ⟨kt.mpr (fun s => q.2 (w2.trans s)), fun s => kf.mp s (w1.symm.trans q.1)⟩
        unfold dgv
        rw [if_neg hc1]
      rw [e2]
      exact GG_s hG
/-- all reports -/
theorem gat_all {c B r : Nat} {rf rt : Nat → Nat} {σ τ : zMu} (hr : r ≤ 60) (hB : B + 1690 ≤ 41060) (hR : RR c B σ τ) (h141 : ∀ p, p < 24 → τ 141 p = τ 130 (24 * c + p)) (hG : GG c (B + 1690) 0 σ τ) (hL : RG rf rt r σ τ) :
    ∀ j, j ≤ r → GG c (B + 1690) j (zit (cgat rf rt c) 0 j σ) (zit (dr2 rf rt c) 0 j τ)
  | 0, _ => hG
  | j + 1, hj => by
    rw [zit_s, zit_s, Nat.zero_add]
    have o : ∀ k, k ≠ 16 ∧ k ≠ 17 ∧ k ≠ 18 → zit (cgat rf rt c) 0 j σ k = σ k := fun k h => zit_keep (cgat_o h) σ j
    have o2 : ∀ k, k ≠ 142 ∧ k ≠ 143 ∧ k ≠ 144 → zit (dr2 rf rt c) 0 j τ k = τ k := fun k h => zit_keep (dr2_o h) τ j
    refine gat_step (by omega) hB ?_ (fun p hp => ?_) (gat_all hr hB hR h141 hG hL j (by omega)) ?_
    · intro p hp
      rw [o (34 + 7 * c) (by omega), o (35 + 7 * c) (by omega), o2 130 (by omega), o2 131 (by omega), o2 132 (by omega)]
      exact hR p hp
    · rw [o2 141 (by omega), o2 130 (by omega)]
      exact h141 p hp
    · rw [o 13 (by omega), o 14 (by omega), o2 126 (by omega), o2 127 (by omega)]
      exact hL j (by omega)
theorem cbeg_f (σ : zMu) : ∀ p, p < 24 → zit cbeg 0 24 σ 16 p = nI 0 ∧ zit cbeg 0 24 σ 17 p = nI 0 ∧ zit cbeg 0 24 σ 18 p = nI 0 := by
  have h := zit_p0 (f := cbeg) (a := 0) (N := 24) (S := fun k => k = 16 ∨ k = 17 ∨ k = 18) (fun i ν k j hh => by
    unfold cbeg
    by_cases e : j = i
    · rw [zu_o (fun q => hh ⟨Or.inr (Or.inr q), e⟩), zu_o (fun q => hh ⟨Or.inr (Or.inl q), e⟩), zu_o (fun q => hh ⟨Or.inl q, e⟩)]
    · rw [zu_o2 e, zu_o2 e, zu_o2 e]) (fun i ν ν' _ _ _ k hk => by
    unfold cbeg
    rcases hk with rfl | rfl | rfl
    · rw [zu_o (by omega), zu_o (by omega), zu_s, zu_o (by omega), zu_o (by omega), zu_s]
    · rw [zu_o (by omega), zu_s, zu_o (by omega), zu_s]
    · rw [zu_s, zu_s]) σ 24 (Nat.le_refl _)
  intro p hp
  refine ⟨?_, ?_, ?_⟩
  · rw [h.1 16 p (Or.inl rfl) (Nat.zero_le _) (by omega), cbeg, zu_o (by omega), zu_o (by omega), zu_s]
  · rw [h.1 17 p (Or.inr (Or.inl rfl)) (Nat.zero_le _) (by omega), cbeg, zu_o (by omega), zu_s]
  · rw [h.1 18 p (Or.inr (Or.inr rfl)) (Nat.zero_le _) (by omega), cbeg, zu_s]
theorem dr1_f {c : Nat} (τ : zMu) : ∀ p, p < 24 → zit (dr1 c) 0 24 τ 141 p = τ 130 (24 * c + p) ∧ zit (dr1 c) 0 24 τ 142 p = nI 0 ∧ zit (dr1 c) 0 24 τ 143 p = nI 0 ∧ zit (dr1 c) 0 24 τ 144 p = nI 0 := by
  have h := zit_p0 (f := dr1 c) (a := 0) (N := 24) (S := fun k => k = 141 ∨ k = 142 ∨ k = 143 ∨ k = 144) (fun i ν k j hh => by
    unfold dr1
    by_cases e : j = i
    · rw [zu_o (fun q => hh ⟨Or.inr (Or.inr (Or.inr q)), e⟩), zu_o (fun q => hh ⟨Or.inr (Or.inr (Or.inl q)), e⟩), zu_o (fun q => hh ⟨Or.inr (Or.inl q), e⟩), zu_o (fun q => hh ⟨Or.inl q, e⟩)]
    · rw [zu_o2 e, zu_o2 e, zu_o2 e, zu_o2 e]) (fun i ν ν' _ _ hag k hk => by
    have e0 : ν 130 (24 * c + i) = ν' 130 (24 * c + i) := hag _ _ (fun s => absurd (show 130 = 141 ∨ 130 = 142 ∨ 130 = 143 ∨ 130 = 144 from s) (by omega))
    unfold dr1
    rcases hk with rfl | rfl | rfl | rfl
    · rw [zu_o (by omega), zu_o (by omega), zu_o (by omega), zu_s, zu_o (by omega), zu_o (by omega), zu_o (by omega), zu_s, e0]
    · rw [zu_o (by omega), zu_o (by omega), zu_s, zu_o (by omega), zu_o (by omega), zu_s]
    · rw [zu_o (by omega), zu_s, zu_o (by omega), zu_s]
    · rw [zu_s, zu_s]) τ 24 (Nat.le_refl _)
  intro p hp
  refine ⟨?_, ?_, ?_, ?_⟩
  · rw [h.1 141 p (Or.inl rfl) (Nat.zero_le _) (by omega), dr1, zu_o (by omega), zu_o (by omega), zu_o (by omega), zu_s]
  · rw [h.1 142 p (Or.inr (Or.inl rfl)) (Nat.zero_le _) (by omega), dr1, zu_o (by omega), zu_o (by omega), zu_s]
  · rw [h.1 143 p (Or.inr (Or.inr (Or.inl rfl))) (Nat.zero_le _) (by omega), dr1, zu_o (by omega), zu_s]
  · rw [h.1 144 p (Or.inr (Or.inr (Or.inr rfl))) (Nat.zero_le _) (by omega), dr1, zu_s]
theorem gather {c B r : Nat} {rf rt : Nat → Nat} {σ τ : zMu} (hr : r ≤ 60) (hB : B + 1690 ≤ 41060) (hR : RR c B σ τ) (hL : RG rf rt r σ τ) : GG c (B + 1690) r (cgather rf rt c r σ) (zit (dr2 rf rt c) 0 r (zit (dr1 c) 0 24 τ)) := by
  have o : ∀ k, k ≠ 16 ∧ k ≠ 17 ∧ k ≠ 18 → zit cbeg 0 24 σ k = σ k := fun k h => zit_keep (cbeg_o h) σ 24
  have o2 : ∀ k, k ≠ 141 ∧ k ≠ 142 ∧ k ≠ 143 ∧ k ≠ 144 → zit (dr1 c) 0 24 τ k = τ k := fun k h => zit_keep (dr1_o h) τ 24
  refine gat_all hr hB (fun p hp => ?_) (fun p hp => ?_) (fun p hp => ?_) (fun i hi => ?_) r (Nat.le_refl _)
  · rw [o (34 + 7 * c) (by omega), o (35 + 7 * c) (by omega), o2 130 (by omega), o2 131 (by omega), o2 132 (by omega)]
    exact hR p hp
  · rw [(dr1_f τ p hp).1, o2 130 (by omega)]
  · obtain ⟨a1, a2, a3⟩ := cbeg_f σ p hp
    obtain ⟨-, b1, b2, b3⟩ := dr1_f (c := c) τ p hp
    refine ⟨0, Nat.le_refl _, ⟨a3, b3⟩, ⟨a1.trans b1.symm, a2.trans b2.symm⟩, ⟨?_, ?_⟩, fun q => absurd q (Nat.lt_irrefl 0)⟩
    · rw [a1]; unfold rb; rw [nI_toInt (by omega)]; omega
    · rw [a2]; unfold rb; rw [nI_toInt (by omega)]; omega
  · rw [o 13 (by omega), o 14 (by omega), o2 126 (by omega), o2 127 (by omega)]
    exact hL i hi
