/-! words for the reference's methods -/
theorem zg_Z {v : Int32} {m : Nat} (hm : m < 2147483647) : zb (¬ v < nI 0 ∧ ¬ nI m < v) = zb (zrg (m + 1) v) := by
  refine zb_cong ?_
  constructor
  · rintro ⟨h1, h2⟩
    obtain ⟨j, hj, rfl⟩ := nI_of (by rw [← nI_0]; exact h1)
    have h3 : ¬ m < j := fun q => h2 ((nI_ltI (by omega) hj).mpr q)
    exact zrg_nI (by omega) (by omega)
  · intro h
    obtain ⟨j, hj, rfl⟩ := zrg_of h (by omega)
    exact ⟨by rw [nI_0]; exact nI_pos (by omega), fun q => absurd ((nI_ltI (by omega) (by omega)).mp q) (by omega)⟩
theorem zg_R {v : Int32} {n : Nat} (hn : n < 2147483647) : zb (¬ v < nI 0 ∧ ¬ nI n - nI 1 < v) = zb (zrg n v) := by
  cases n with
  | zero =>
    refine zb_cong ⟨?_, fun h => absurd h.2 h.1⟩
    rintro ⟨h1, h2⟩
    refine absurd (Int32.lt_iff_toInt_lt.mpr ?_) h2
    have h3 := Int32.le_iff_toInt_le.mp (Int32.not_lt.mp h1)
    have e1 : (nI 0 - nI 1).toInt = -1 := by decide
    have e2 : (nI 0).toInt = 0 := by decide
    omega
  | succ m =>
    rw [pk_sub (by omega), Nat.add_sub_cancel]
    exact zg_Z (by omega)
theorem zg_S {v l h : Int32} (hl : l = -h) : zb (¬ v < l ∧ ¬ h < v) = zb (zin v h) := by subst hl; rfl
theorem zg_N {l j h : Nat} (h1 : l ≤ j) (h2 : j ≤ h) (h3 : h < 2147483648) : zb (¬ nI j < nI l ∧ ¬ nI h < nI j) = nI 1 :=
  zb_t ⟨fun q => absurd ((nI_ltI (by omega) (by omega)).mp q) (by omega), fun q => absurd ((nI_ltI (by omega) (by omega)).mp q) (by omega)⟩
theorem zg_0 {v : Int32} {m : Nat} : zb (¬ v < nI 0 ∧ ¬ nI m < v) = zb (¬ v < 0 ∧ ¬ nI m < v) := by rw [nI_0]
def zsz (x : Int32) : Int32 := if x < 0 then -x else x
def zmade (x way h : Int32) : Int32 := if way = nI 1 then x / nI 5 * nI 5 else if way = nI 2 then x + h else x
/-- the reference's next link -/
def znx (μ : zMu) (c p : Nat) : Int32 := if μ 130 (24 * c + p) = 0 then -1 else μ 134 (24 * c + p)
abbrev znr (μ : zMu) (i : Nat) (x y : Int32) : Prop := μ 130 i = 0 ∨ (zin (μ 131 i + x) (nI 9999) ∧ zin (μ 132 i + y) (nI 9999))
def zat8 (μ : zMu) (c p : Nat) : Nat → Int32
  | 0 => if μ 130 (24 * c + p) = 0 then 100000 else μ 131 (24 * c + p)
  | 1 => if μ 130 (24 * c + p) = 0 then 100000 else μ 132 (24 * c + p)
  | 2 => μ 133 (24 * c + p)
  | 3 => znx μ c p
  | 4 => if μ 130 (24 * c + p) = 0 then 100000 else μ 131 (24 * c + p) - μ 118 p
  | _ => if μ 130 (24 * c + p) = 0 then 100000 else μ 132 (24 * c + p) - μ 119 p
/-! bodies of the reference's loops -/
def dgv (c p f : Nat) (x y : Int32) (ν : zMu) : zMu :=
  if ν 141 p = 0 ∧ ¬ ν 141 f = 0 then zu (zu (zu ν 142 p (ν 142 p + (ν 131 (24 * c + f) + x))) 143 p (ν 143 p + (ν 132 (24 * c + f) + y))) 144 p (ν 144 p + nI 1) else ν
theorem dgv_o {c p f q : Nat} {x y : Int32} {ν : zMu} (h : q ≠ 142 ∧ q ≠ 143 ∧ q ≠ 144) : dgv c p f x y ν q = ν q := by
  unfold dgv
  split
  · rw [zu_r h.2.2, zu_r h.2.1, zu_r h.1]
  · rfl
def dr1 (c i : Nat) (ν : zMu) : zMu := zu (zu (zu (zu ν 141 i (ν 130 (24 * c + i))) 142 i (nI 0)) 143 i (nI 0)) 144 i (nI 0)
def dr2 (rf rt : Nat → Nat) (c i : Nat) (ν : zMu) : zMu := dgv c (rf i) (rt i) (-ν 126 i) (-ν 127 i) (dgv c (rt i) (rf i) (ν 126 i) (ν 127 i) ν)
def dr3 (c i : Nat) (s : Int32 × zMu) : Int32 × zMu := if s.2 144 i ≤ 0 then s else (nI 1, zu (zu (zu s.2 130 (24 * c + i) (nI 1)) 131 (24 * c + i) (s.2 142 i / s.2 144 i)) 132 (24 * c + i) (s.2 143 i / s.2 144 i))
def drounds (rf rt : Nat → Nat) (c r : Nat) (μ : zMu) : Int32 × zMu := zit (dr3 c) 0 24 (nI 0, zit (dr2 rf rt c) 0 r (zit (dr1 c) 0 24 μ))
theorem dr1_o {c q : Nat} (h : q ≠ 141 ∧ q ≠ 142 ∧ q ≠ 143 ∧ q ≠ 144) (i : Nat) (ν : zMu) : dr1 c i ν q = ν q := by
  unfold dr1
  rw [zu_r h.2.2.2, zu_r h.2.2.1, zu_r h.2.1, zu_r h.1]
theorem dr2_o {rf rt : Nat → Nat} {c q : Nat} (h : q ≠ 142 ∧ q ≠ 143 ∧ q ≠ 144) (i : Nat) (ν : zMu) : dr2 rf rt c i ν q = ν q := by
  unfold dr2
  rw [dgv_o h, dgv_o h]
theorem dr3_o {c q : Nat} (h : q ≠ 130 ∧ q ≠ 131 ∧ q ≠ 132) : ∀ (n : Nat) (s : Int32 × zMu), (zit (dr3 c) 0 n s).2 q = s.2 q
  | 0, _ => rfl
  | n + 1, s => by
    rw [zit_s, dr3]
    by_cases h1 : (zit (dr3 c) 0 n s).2 144 (0 + n) ≤ 0
    · rw [if_pos h1, dr3_o h n s]
    · rw [if_neg h1]
      show zu _ _ _ _ q = _
      rw [zu_r h.2.2, zu_r h.2.1, zu_r h.1, dr3_o h n s]
theorem dr3_B {c : Nat} : ∀ (n : Nat) (s : Int32 × zMu), (∀ i, i < 288 → s.2 130 i = 0 ∨ s.2 130 i = 1) → ∀ i, i < 288 → (zit (dr3 c) 0 n s).2 130 i = 0 ∨ (zit (dr3 c) 0 n s).2 130 i = 1
  | 0, _, h => h
  | n + 1, s, h => fun i hi => by
    rw [zit_s, dr3]
    by_cases h1 : (zit (dr3 c) 0 n s).2 144 (0 + n) ≤ 0
    · rw [if_pos h1]; exact dr3_B n s h i hi
    · rw [if_neg h1]
      dsimp only
      rw [zu_r (by decide), zu_r (by decide)]
      by_cases h2 : i = 24 * c + (0 + n)
      · right; rw [h2, zu_s]; rfl
      · rw [zu_o2 h2]; exact dr3_B n s h i hi
theorem drounds_o {rf rt : Nat → Nat} {c r q : Nat} {μ : zMu} (h : (q ≠ 130 ∧ q ≠ 131 ∧ q ≠ 132) ∧ q ≠ 141 ∧ q ≠ 142 ∧ q ≠ 143 ∧ q ≠ 144) : (drounds rf rt c r μ).2 q = μ q := by
  unfold drounds
  rw [dr3_o h.1]
  show zit (dr2 rf rt c) 0 r _ q = _
  rw [zit_keep (dr2_o h.2.2), zit_keep (dr1_o h.2)]
theorem drounds_B {rf rt : Nat → Nat} {c r : Nat} {μ : zMu} (_ : c < 12) (h : ∀ i, i < 288 → μ 130 i = 0 ∨ μ 130 i = 1) : ∀ i, i < 288 → (drounds rf rt c r μ).2 130 i = 0 ∨ (drounds rf rt c r μ).2 130 i = 1 := by
  unfold drounds
  refine dr3_B 24 _ (fun i hi => ?_)
  dsimp only
  rw [zit_keep (dr2_o (by decide)), zit_keep (dr1_o (by decide))]
  exact h i hi
def dc1 (c i : Nat) (ν : zMu) : zMu := zu (zu (zu ν 130 (24 * c + i) (if i = 0 then nI 1 else nI 0)) 133 (24 * c + i) (ν 120 i)) 134 (24 * c + i) (-1)
def dc2 (c i : Nat) (ν : zMu) : zMu := zu ν 129 (3 * c + i) (nI 100)
theorem dc1_o {c q : Nat} (h : q ≠ 130 ∧ q ≠ 133 ∧ q ≠ 134) (i : Nat) (ν : zMu) : dc1 c i ν q = ν q := by
  unfold dc1
  rw [zu_r h.2.2, zu_r h.2.1, zu_r h.1]
theorem dc2_o {c q : Nat} (h : q ≠ 129) (i : Nat) (ν : zMu) : dc2 c i ν q = ν q := zu_r h
def dch0 (c : Nat) (μ : zMu) : zMu := zit (dc1 c) 0 24 μ
def dch1 (c : Nat) (μ : zMu) : zMu := zu (zu (dch0 c μ) 131 (24 * c + 0) (dch0 c μ 118 0)) 132 (24 * c + 0) (dch0 c μ 119 0)
def dch2 (c : Nat) (μ : zMu) : zMu := zit (dc2 c) 0 3 (dch1 c μ)
theorem dch2_o {c q : Nat} {μ : zMu} (h : q ≠ 129 ∧ (q ≠ 130 ∧ q ≠ 133 ∧ q ≠ 134) ∧ q ≠ 131 ∧ q ≠ 132) : dch2 c μ q = μ q := by
  unfold dch2
  rw [zit_keep (dc2_o h.1)]
  unfold dch1
  rw [zu_r h.2.2.2, zu_r h.2.2.1]
  unfold dch0
  rw [zit_keep (dc1_o h.2.1)]
theorem dc1_B {c : Nat} {μ : zMu} (h : ∀ i, i < 288 → μ 130 i = 0 ∨ μ 130 i = 1) : ∀ n i, i < 288 → zit (dc1 c) 0 n μ 130 i = 0 ∨ zit (dc1 c) 0 n μ 130 i = 1
  | 0 => h
  | n + 1 => fun i hi => by
    rw [zit_s, dc1, zu_r (by decide), zu_r (by decide)]
    by_cases h2 : i = 24 * c + (0 + n)
    · rw [h2, zu_s]
      split
      · right; rfl
      · left; rfl
    · rw [zu_o2 h2]; exact dc1_B h n i hi
theorem dch2_B {c : Nat} {μ : zMu} (_ : c < 12) (h : ∀ i, i < 288 → μ 130 i = 0 ∨ μ 130 i = 1) : ∀ i, i < 288 → dch2 c μ 130 i = 0 ∨ dch2 c μ 130 i = 1 := fun i hi => by
  unfold dch2
  rw [zit_keep (dc2_o (by decide))]
  unfold dch1
  rw [zu_r (by decide), zu_r (by decide)]
  exact dc1_B h 24 i hi
/-- the rounds, as often as they go on -/
def dwh (rf rt : Nat → Nat) (c r : Nat) : Nat → zMu → zMu
  | 0, μ => μ
  | n + 1, μ => if (drounds rf rt c r μ).1 = 0 then (drounds rf rt c r μ).2 else dwh rf rt c r n (drounds rf rt c r μ).2
def dws (rf rt : Nat → Nat) (c r : Nat) : Nat → zMu → Prop
  | 0, _ => False
  | n + 1, μ => (drounds rf rt c r μ).1 = 0 ∨ dws rf rt c r n (drounds rf rt c r μ).2
theorem dwh_o {rf rt : Nat → Nat} {c r q : Nat} (h : (q ≠ 130 ∧ q ≠ 131 ∧ q ≠ 132) ∧ q ≠ 141 ∧ q ≠ 142 ∧ q ≠ 143 ∧ q ≠ 144) : ∀ (n : Nat) (μ : zMu), dwh rf rt c r n μ q = μ q
  | 0, _ => rfl
  | n + 1, μ => by
    rw [dwh]
    split
    · exact drounds_o h
    · rw [dwh_o h n, drounds_o h]
