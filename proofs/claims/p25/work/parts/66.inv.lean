/-! WHAT JOINS the class (μ) and the law's own arrays (ν) -/
/-- the true coast -/
def iT (μ ν : zMu) : Prop := (∀ p, p < 10 → μ 3 p = ν 4 p ∧ μ 4 p = ν 4 (10 + p) ∧ μ 5 p = ν 4 (20 + p) ∧ rb 500 (ν 4 p) ∧ rb 500 (ν 4 (10 + p)) ∧ ∃ m, 1 ≤ m ∧ m ≤ 12 ∧ ν 4 (20 + p) = nI m) ∧ ∀ p, 10 ≤ p → p < 24 → μ 5 p = nI (p + 1)
/-- a point of the first ten on a chart -/
def iP (μ ν : zMu) (nc c p : Nat) : Prop := (μ (36 + 7 * c) p = ν 2 (10 * c + p) ∧ ∃ m, 1 ≤ m ∧ m ≤ 12 ∧ ν 2 (10 * c + p) = nI m) ∧
  ((ν 3 (10 * c + p) = -2 ∧ μ (34 + 7 * c) p = 100000 ∧ μ (35 + 7 * c) p = 100000 ∧ μ (37 + 7 * c) p = -1) ∨
   ((ν 3 (10 * c + p) = -1 ∨ ∃ j, j < nc ∧ ν 3 (10 * c + p) = nI j) ∧ μ (34 + 7 * c) p = ν 0 (10 * c + p) ∧ μ (35 + 7 * c) p = ν 1 (10 * c + p) ∧ μ (37 + 7 * c) p = ν 3 (10 * c + p) ∧ rb (41060 + 9 * c) (ν 0 (10 * c + p)) ∧ rb (41060 + 9 * c) (ν 1 (10 * c + p))))
/-- another point: never known, its name the true one -/
def iO (μ : zMu) (c p : Nat) : Prop := μ (36 + 7 * c) p = nI (p + 1) ∧ μ (34 + 7 * c) p = 100000 ∧ μ (35 + 7 * c) p = 100000 ∧ μ (37 + 7 * c) p = -1
def iK (μ ν : zMu) (nc : Nat) : Prop := ∀ c, c < nc → (μ (33 + 7 * c) 0 = ν 6 c ∧ ∃ y, 1000 ≤ y ∧ y ≤ 1000 + 2 * c ∧ ν 6 c = nI y) ∧ μ (38 + 7 * c) 0 = nI 100 ∧ (∀ p, p < 10 → iP μ ν nc c p) ∧ ∀ p, 10 ≤ p → p < 24 → iO μ c p
/-- whether bit a of v is set, as the law asks it -/
abbrev sbv (v : Int32) (a : Nat) : Int32 := (v >>> (nI a &&& 31)) &&& nI 1
abbrev sbit (v : Int32) (a : Nat) : Prop := sbv v a = nI 1
/-- the islands -/
def iB (μ ν : zMu) (nc ni : Nat) : Prop := (∀ k, k < 4 → ∃ v, v < 32 ∧ ν 5 k = nI v ∧ ∀ c, c < 5 → sbv (ν 5 k) c = μ (39 + 7 * c) k) ∧ ∀ c, c < 12 → ∀ i, i < 20 → (μ (39 + 7 * c) i = 0 ∨ μ (39 + 7 * c) i = 1) ∧ (nc ≤ c ∨ ni ≤ i → μ (39 + 7 * c) i = 0)
/-- for each point the sources fall -/
def iA (μ : zMu) (nc : Nat) : Prop := ∀ p, p < 24 → ∃ h : Nat → Nat, ∀ c, c < nc → ∀ j, j < 12 → μ (37 + 7 * c) p = nI j → j < nc ∧ h j < h c
/-- the reports -/
def iL (μ ν : zMu) (nr : Nat) (rf rt : Nat → Nat) : Prop := ∀ k, k < nr → (μ 11 k = nI (rf k) ∧ μ 12 k = nI (rt k) ∧ rf k < 10 ∧ rt k < 10) ∧ (ν 9 (4 * k) = nI (rf k) ∧ ν 9 (4 * k + 1) = nI (rt k)) ∧ (μ 13 k = ν 9 (4 * k + 2) ∧ μ 14 k = ν 9 (4 * k + 3)) ∧ rb 1690 (μ 13 k) ∧ rb 1690 (μ 14 k)
/-- the copyists -/
def iY (μ ν : zMu) : Prop := ∀ q, q < 4 → (μ (25 + 2 * q) 0 = ν 7 q ∧ rb 9 (ν 7 q)) ∧ (∀ m, 1 ≤ m → m ≤ 12 → μ (26 + 2 * q) m = ν 8 (16 * q + m) ∧ ∃ w, 1 ≤ w ∧ w ≤ 12 ∧ ν 8 (16 * q + m) = nI w) ∧ ∀ m, 11 ≤ m → m < 100 → μ (26 + 2 * q) m = nI m
def iN (μ : zMu) (nc nr ni : Nat) : Prop := (μ 1 7 = nI nc ∧ nc ≤ 5) ∧ (μ 10 4 = nI nr ∧ 6 ≤ nr ∧ nr ≤ 13) ∧ (μ 21 3 = nI ni ∧ ni ≤ 4)
def iv (μ ν : zMu) (nc nr ni : Nat) (rf rt : Nat → Nat) : Prop := iN μ nc nr ni ∧ iT μ ν ∧ iL μ ν nr rf rt ∧ iY μ ν ∧ iB μ ν nc ni ∧ iK μ ν nc ∧ iA μ nc
theorem rb_n0 {n : Nat} {x : Int32} (h : rb n x) (hn : n < 100000) : ¬ x = 100000 := by
  intro e
  subst e
  unfold rb at h
  have h2 : (100000 : Int32).toInt = 100000 := rfl
  omega
theorem m2_n {a : Nat} (h : a < 2147483648) : ¬ nI a = -2 := fun q => nI_pos (n := a) h (by rw [q]; decide)
theorem k_gt {x : Int32} {nc : Nat} (hn : nc ≤ 12) (h : x = -1 ∨ ∃ j, j < nc ∧ x = nI j) : ¬ x ≤ -2 ∧ ¬ x = -2 := by
  rcases h with rfl | ⟨j, hj, rfl⟩
  · decide
  · refine ⟨fun q => ?_, m2_n (by omega)⟩
    have h1 := nI_pos (n := j) (by omega)
    exact h1 (Int32.lt_of_le_of_lt q (by decide))
theorem iP_kn {μ ν : zMu} {nc c p : Nat} (hn : nc ≤ 5) (hc : c < 5) (h : iP μ ν nc c p) : zkn μ c p ↔ ¬ ν 3 (10 * c + p) = -2 := by
  rcases h.2 with ⟨h1, h2, -⟩ | ⟨h1, h2, -, -, h3, -⟩
  · exact ⟨fun q => absurd h2 q, fun q => absurd h1 q⟩
  · refine ⟨fun _ => (k_gt (by omega) h1).2, fun _ q => ?_⟩
    rw [h2] at q
    exact rb_n0 h3 (by omega) q
theorem iP_le {μ ν : zMu} {nc c p : Nat} (hn : nc ≤ 5) (h : iP μ ν nc c p) : ν 3 (10 * c + p) ≤ -2 ↔ ν 3 (10 * c + p) = -2 := by
  rcases h.2 with ⟨h1, -⟩ | ⟨h1, -⟩
  · exact ⟨fun _ => h1, fun _ => by rw [h1]; decide⟩
  · exact ⟨fun q => absurd q (k_gt (by omega) h1).1, fun q => absurd q (k_gt (by omega) h1).2⟩
theorem at_k {μ ν : zMu} {nc c p : Nat} (hn : nc ≤ 5) (hc : c < 5) (hp : p < 10) (hT : iT μ ν) (h : iP μ ν nc c p) (hk : ¬ ν 3 (10 * c + p) = -2) : zat μ c p 0 = ν 0 (10 * c + p) ∧ zat μ c p 1 = ν 1 (10 * c + p) ∧ zat μ c p 2 = ν 2 (10 * c + p) ∧ zat μ c p 3 = ν 3 (10 * c + p) ∧ zat μ c p 4 = ν 0 (10 * c + p) - ν 4 p ∧ zat μ c p 5 = ν 1 (10 * c + p) - ν 4 (10 + p) := by
  have hz := (iP_kn hn hc h).mpr hk
  obtain ⟨t1, t2, -⟩ := hT.1 p hp
  obtain ⟨hn1, h9⟩ := h
  rcases h9 with ⟨h1, -⟩ | ⟨h1, h2, h3, h4, -⟩
  · exact absurd h1 hk
  · refine ⟨h2, h3, hn1.1, h4, ?_, ?_⟩
    · show (if zkn μ c p then μ (34 + 7 * c) p - μ 3 p else 100000) = _
      rw [if_pos hz, h2, t1]
    · show (if zkn μ c p then μ (35 + 7 * c) p - μ 4 p else 100000) = _
      rw [if_pos hz, h3, t2]
theorem at_u {μ ν : zMu} {nc c p : Nat} (hn : nc ≤ 5) (hc : c < 5) (h : iP μ ν nc c p) (hk : ν 3 (10 * c + p) = -2) : zat μ c p 0 = 100000 ∧ zat μ c p 1 = 100000 ∧ zat μ c p 2 = ν 2 (10 * c + p) ∧ zat μ c p 3 = -1 ∧ zat μ c p 4 = 100000 ∧ zat μ c p 5 = 100000 := by
  have hz : ¬ zkn μ c p := fun q => (iP_kn hn hc h).mp q hk
  obtain ⟨hn1, h9⟩ := h
  rcases h9 with ⟨h1, h2, h3, h4⟩ | ⟨h1, -⟩
  · refine ⟨h2, h3, hn1.1, h4, if_neg hz, if_neg hz⟩
  · exact absurd hk (k_gt (by omega) h1).2
/-- a fold goes no further -/
theorem zit_end {α : Type} {f : Nat → α → α} {a n : Nat} {s : α} : ∀ k, (∀ i, n ≤ i → i < n + k → ∀ r, f (a + i) r = r) → zit f a (n + k) s = zit f a n s
  | 0, _ => rfl
  | k + 1, h => by rw [← Nat.add_assoc, zit_s, zit_end k (fun i h1 h2 => h i h1 (by omega)), h (n + k) (by omega) (by omega)]
theorem iO_kn {μ : zMu} {c p : Nat} (h : iO μ c p) : ¬ zkn μ c p := fun q => q h.2.1
theorem kn24 {μ : zMu} {c : Nat} (h : ∀ p, 10 ≤ p → p < 24 → iO μ c p) : zit (ckn μ c) 0 24 (nI 0) = zit (ckn μ c) 0 10 (nI 0) :=
  zit_end (n := 10) 14 (fun i h1 h2 r => by rw [ckn, if_neg (iO_kn (h (0 + i) (by omega) (by omega)))])
theorem fit22 {μ : zMu} {c : Nat} (h : ∀ p, 10 ≤ p → p < 24 → iO μ c p) : zfi μ c 2 2 = 0 := by
  show zit (cres μ c _ _) (2 * 8) (0 + 8) (nI 0) = nI 0
  rw [zit_end 8 (fun i h1 h2 r => by rw [cres, if_neg (iO_kn (h (2 * 8 + i) (by omega) (by omega)))])]
  rfl
/-- the chain of a point, a step further -/
theorem chain_s {μ ν : zMu} {nc j p : Nat} (hn : nc ≤ 5) (hj : j < nc) (hP : iP μ ν nc j p) : (ν 3 (10 * j + p) < 0 → zsrc μ nc p (nI j) = -1) ∧ (¬ ν 3 (10 * j + p) < 0 → zsrc μ nc p (nI j) = ν 3 (10 * j + p) ∧ ∃ i, i < nc ∧ ν 3 (10 * j + p) = nI i) := by
  rw [zsrc_n hj (by omega)]
  rcases hP.2 with ⟨h1, -, -, h4⟩ | ⟨h1, -, -, h4, -⟩
  · refine ⟨fun _ => h4, fun q => ?_⟩
    rw [h1] at q
    exact absurd (by decide) q
  · rw [h4]
    rcases h1 with h1 | ⟨i, hi, h1⟩
    · refine ⟨fun _ => h1, fun q => ?_⟩
      rw [h1] at q
      exact absurd (by decide) q
    · refine ⟨fun q => ?_, fun _ => ⟨rfl, i, hi, h1⟩⟩
      rw [h1] at q
      exact absurd q (nI_pos (by omega))
