/-! date, of -/
theorem zit_congr {α : Type} {f g : Nat → α → α} {a : Nat} : ∀ (n : Nat) (_ : ∀ i, i < n → ∀ s, f (a + i) s = g (a + i) s) (s : α), zit f a n s = zit g a n s
  | 0, _, _ => rfl
  | n + 1, h, s => by rw [zit_s, zit_s, zit_congr n (fun i hi => h i (by omega)) s, h n (by omega)]
theorem cda_eq {μ : zMu} {nc c p : Nat} {s : Int32} (hC : rC μ) (hp : p < 24) (h : rQ μ nc c p) : cda μ c p s = dda μ c p s := by
  obtain ⟨⟨h1, -⟩, -⟩ := h
  obtain ⟨⟨-, -, c3, c4⟩, -⟩ := hC p hp
  unfold cda dda ztn
  rw [h1, c3, c4]
  by_cases h0 : μ 133 (24 * c + p) = μ 120 p
  · rw [if_pos h0, if_pos h0]
    by_cases h2 : s < μ 121 p
    · rw [if_pos h2, if_neg (fun q => absurd h2 (Int32.not_lt.mpr q))]
    · rw [if_neg h2, if_pos (Int32.not_lt.mp h2)]
  · rw [if_neg h0, if_neg h0]
theorem za_date {E : Nat × (Nat → Int32)} {μ : zMu} {x1 x2 x3 x4 x5 : Int32} (hI : zInv μ) : zAll zInv E μ x1 x2 x3 x4 x5 21 := by
  obtain ⟨nc, nr, np, ni, rf, rt, hN, hC, hP, hL, hY, hI', hB, hF, hK, hA⟩ := id hI
  have h12 := hN.1.2.2
  by_cases hb : zrg nc x1 ∧ zrg 3 x2
  · obtain ⟨c, hc, rfl⟩ := zrg_of hb.1 (by omega)
    obtain ⟨b, hb3, rfl⟩ := zrg_of hb.2 (by omega)
    left
    refine ⟨μ, zu μ 117 0 (nI 0), _, fun g => ct_X7_date hN.1.1 h12 hc hb3, fun g => ?_, zu_s, zInv_t hI⟩
    have e : dda (zu μ 117 0 (nI 0)) c = dda μ c := rfl
    have h := ct_X8_date (E := E) (μ := μ) (g := g) hN.1.2.1 h12 hc hb3
    rw [e, Nat.mul_comm 8 b, ← zit_congr (f := cda μ c) 8 (fun i hi s => cda_eq hC (by omega) ((hK c hc).2.2 _ (by omega)))] at h
    exact h
  · right
    exact ⟨_, _, fun g => ctx_X7_date hN.1.1 h12 hb, fun g => ctx_X8_date hN.1.2.1 h12 hb, zu_s, zInv_t hI⟩
