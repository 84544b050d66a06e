/-! WHAT JOINS class and reference -/
def rC (μ : zMu) : Prop := ∀ p, p < 24 → (μ 3 p = μ 118 p ∧ μ 4 p = μ 119 p ∧ μ 5 p = μ 120 p ∧ μ 6 p = μ 121 p) ∧ zin (μ 3 p) (nI 500) ∧ zin (μ 4 p) (nI 500) ∧ znm (μ 5 p)
def rP (μ : zMu) : Prop := ∀ q, q < 6 → (μ 8 q = μ 122 q ∧ μ 9 q = μ 123 q) ∧ zin (μ 8 q) (nI 30) ∧ zin (μ 9 q) (nI 30)
/-- a number is no greater than n, either way -/
def rb (n : Nat) (x : Int32) : Prop := -(n : Int) ≤ x.toInt ∧ x.toInt ≤ (n : Int)
def rL (μ : zMu) (nr : Nat) (rf rt : Nat → Nat) : Prop := ∀ i, i < nr → (μ 11 i = nI (rf i) ∧ μ 12 i = nI (rt i) ∧ rf i < 24 ∧ rt i < 24) ∧ (μ 124 i = nI (rf i) ∧ μ 125 i = nI (rt i)) ∧ (μ 13 i = μ 126 i ∧ μ 14 i = μ 127 i) ∧ rb 1690 (μ 13 i) ∧ rb 1690 (μ 14 i)
def rY (μ : zMu) : Prop := ∀ q, q < 4 → μ (25 + 2 * q) 0 = μ 135 q ∧ zin (μ 135 q) (nI 9) ∧ ∀ j, j < 100 → μ (26 + 2 * q) j = μ 136 (100 * q + j) ∧ (1 ≤ j → znm (μ 136 (100 * q + j)))
def rI (μ : zMu) : Prop := ∀ i, i < 20 → μ 22 i = μ 137 i ∧ μ 23 i = μ 138 i ∧ μ 24 i = μ 139 i
def rB (μ : zMu) (nc : Nat) : Prop := ∀ i, i < 288 → (μ 130 i = 0 ∨ μ 130 i = 1) ∧ (24 * nc ≤ i → μ 130 i = 0)
def rF (μ : zMu) (nc ni : Nat) : Prop := ∀ c, c < 12 → ∀ i, i < 20 → μ (39 + 7 * c) i = μ 140 (20 * c + i) ∧ (μ 140 (20 * c + i) = 0 ∨ μ 140 (20 * c + i) = 1) ∧ (nc ≤ c ∨ ni ≤ i → μ 140 (20 * c + i) = 0)
/-- one point of one chart -/
def rQ (μ : zMu) (nc c p : Nat) : Prop := (μ (36 + 7 * c) p = μ 133 (24 * c + p) ∧ znm (μ (36 + 7 * c) p)) ∧ μ (37 + 7 * c) p = μ 134 (24 * c + p) ∧
  ((¬ μ 130 (24 * c + p) = 0 ∧ (μ (34 + 7 * c) p = μ 131 (24 * c + p) ∧ μ (35 + 7 * c) p = μ 132 (24 * c + p)) ∧ (rb (41060 + 9 * c) (μ (34 + 7 * c) p) ∧ rb (41060 + 9 * c) (μ (35 + 7 * c) p)) ∧ (μ (37 + 7 * c) p = -1 ∨ ∃ j, j < nc ∧ μ (37 + 7 * c) p = nI j)) ∨
   (μ 130 (24 * c + p) = 0 ∧ μ (34 + 7 * c) p = 100000 ∧ μ (35 + 7 * c) p = 100000 ∧ μ (37 + 7 * c) p = -1))
def rK (μ : zMu) (nc : Nat) : Prop := ∀ c, c < nc → μ (33 + 7 * c) 0 = μ 128 c ∧ (∀ b, b < 3 → μ (38 + 7 * c) b = μ 129 (3 * c + b)) ∧ ∀ p, p < 24 → rQ μ nc c p
/-- for each point the sources fall -/
def rA (μ : zMu) (nc : Nat) : Prop := ∀ p, p < 24 → ∃ h : Nat → Nat, ∀ c, c < nc → ∀ j, j < 12 → μ (37 + 7 * c) p = nI j → j < nc ∧ h j < h c
def rN (μ : zMu) (nc nr np ni : Nat) : Prop := (μ 1 7 = nI nc ∧ μ 117 13 = nI nc ∧ nc ≤ 12) ∧ (μ 10 4 = nI nr ∧ μ 117 8 = nI nr ∧ nr ≤ 60) ∧ (μ 7 2 = nI np ∧ μ 117 5 = nI np ∧ np ≤ 6) ∧ (μ 21 3 = nI ni ∧ μ 117 23 = nI ni ∧ ni ≤ 20)
def zInv (μ : zMu) : Prop := ∃ (nc nr np ni : Nat) (rf rt : Nat → Nat), rN μ nc nr np ni ∧ rC μ ∧ rP μ ∧ rL μ nr rf rt ∧ rY μ ∧ rI μ ∧ rB μ nc ∧ rF μ nc ni ∧ rK μ nc ∧ rA μ nc
theorem zInv_0 : zInv u0 := by
  refine ⟨0, 0, 0, 0, fun _ => 0, fun _ => 0, ?_, ?_, ?_, fun i hi => absurd hi (Nat.not_lt_zero i), ?_, ?_, ?_, ?_, fun c hc => absurd hc (Nat.not_lt_zero c), fun p _ => ⟨fun _ => 0, fun c hc => absurd hc (Nat.not_lt_zero c)⟩⟩
  · unfold rN; decide +kernel
  · unfold rC; decide +kernel
  · unfold rP; decide +kernel
  · unfold rY; decide +kernel
  · unfold rI; decide +kernel
  · unfold rB; decide +kernel
  · unfold rF; decide +kernel
