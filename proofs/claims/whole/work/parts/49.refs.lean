/-! words for the reference's methods -/
theorem zg_Z {v : Int32} {m : Nat} (hm : m < 2147483647) : zb (¬ v < nI 0 ∧ ¬ nI m < v) = zb (zrg (m + 1) v) := by
  refine zb_cong ?_
  constructor
  · rintro ⟨h1, h2⟩
    obtain ⟨j, hj, rfl⟩ := nI_of (by rw [← nI_0]; exact h1)
    have h3 : ¬ m < j := fun q => h2 ((nI_ltI (by omega) hj).mpr q)
    exact zrg_nI (by omega) (by omega)
  · intro h
    obtain ⟨j, hj, rfl⟩ := zrg_of h (by omega)
    exact ⟨by rw [nI_0]; exact nI_pos (by omega), fun q => absurd ((nI_ltI (by omega) (by omega)).mp q) (by omega)⟩
theorem zg_R {v : Int32} {n : Nat} (hn : n < 2147483647) : zb (¬ v < nI 0 ∧ ¬ nI n - nI 1 < v) = zb (zrg n v) := by
  cases n with
  | zero =>
    refine zb_cong ⟨?_, fun h => absurd h.2 h.1⟩
    rintro ⟨h1, h2⟩
    refine absurd (Int32.lt_iff_toInt_lt.mpr ?_) h2
    have h3 := Int32.le_iff_toInt_le.mp (Int32.not_lt.mp h1)
    have e1 : (nI 0 - nI 1).toInt = -1 := by decide
    have e2 : (nI 0).toInt = 0 := by decide
    omega
  | succ m =>
    rw [pk_sub (by omega), Nat.add_sub_cancel]
    exact zg_Z (by omega)
theorem zg_S {v l h : Int32} (hl : l = -h) : zb (¬ v < l ∧ ¬ h < v) = zb (zin v h) := by subst hl; rfl
theorem zg_N {l j h : Nat} (h1 : l ≤ j) (h2 : j ≤ h) (h3 : h < 2147483648) : zb (¬ nI j < nI l ∧ ¬ nI h < nI j) = nI 1 :=
  zb_t ⟨fun q => absurd ((nI_ltI (by omega) (by omega)).mp q) (by omega), fun q => absurd ((nI_ltI (by omega) (by omega)).mp q) (by omega)⟩
theorem zg_0 {v : Int32} {m : Nat} : zb (¬ v < nI 0 ∧ ¬ nI m < v) = zb (¬ v < 0 ∧ ¬ nI m < v) := by rw [nI_0]
def zsz (x : Int32) : Int32 := if x < 0 then -x else x
def zmade (x way h : Int32) : Int32 := if way = nI 1 then x / nI 5 * nI 5 else if way = nI 2 then x + h else x
/-- the reference's next link -/
def znx (μ : zMu) (c p : Nat) : Int32 := if μ 130 (24 * c + p) = 0 then -1 else μ 134 (24 * c + p)
abbrev znr (μ : zMu) (i : Nat) (x y : Int32) : Prop := μ 130 i = 0 ∨ (zin (μ 131 i + x) (nI 9999) ∧ zin (μ 132 i + y) (nI 9999))
def zat8 (μ : zMu) (c p : Nat) : Nat → Int32
  | 0 => if μ 130 (24 * c + p) = 0 then 100000 else μ 131 (24 * c + p)
  | 1 => if μ 130 (24 * c + p) = 0 then 100000 else μ 132 (24 * c + p)
  | 2 => μ 133 (24 * c + p)
  | 3 => znx μ c p
  | 4 => if μ 130 (24 * c + p) = 0 then 100000 else μ 131 (24 * c + p) - μ 118 p
  | _ => if μ 130 (24 * c + p) = 0 then 100000 else μ 132 (24 * c + p) - μ 119 p
/-! bodies of the reference's loops -/
def dgv (c p f : Nat) (x y : Int32) (ν : zMu) : zMu :=
  if ν 141 p = 0 ∧ ¬ ν 141 f = 0 then zu (zu (zu ν 142 p (ν 142 p + (ν 131 (24 * c + f) + x))) 143 p (ν 143 p + (ν 132 (24 * c + f) + y))) 144 p (ν 144 p + nI 1) else ν
theorem dgv_o {c p f q : Nat} {x y : Int32} {ν : zMu} (h : q ≠ 142 ∧ q ≠ 143 ∧ q ≠ 144) : dgv c p f x y ν q = ν q := by
  unfold dgv
  split
  · rw [zu_r h.2.2, zu_r h.2.1, zu_r h.1]
  · rfl
def dr1 (c i : Nat) (ν : zMu) : zMu := zu (zu (zu (zu ν 141 i (ν 130 (24 * c + i))) 142 i (nI 0)) 143 i (nI 0)) 144 i (nI 0)
def dr2 (rf rt : Nat → Nat) (c i : Nat) (ν : zMu) : zMu := dgv c (rf i) (rt i) (-ν 126 i) (-ν 127 i) (dgv c (rt i) (rf i) (ν 126 i) (ν 127 i) ν)
def dr3 (c i : Nat) (s : Int32 × zMu) : Int32 × zMu := if s.2 144 i ≤ 0 then s else (nI 1, zu (zu (zu s.2 130 (24 * c + i) (nI 1)) 131 (24 * c + i) (s.2 142 i / s.2 144 i)) 132 (24 * c + i) (s.2 143 i / s.2 144 i))
def drounds (rf rt : Nat → Nat) (c r : Nat) (μ : zMu) : Int32 × zMu := zit (dr3 c) 0 24 (nI 0, zit (dr2 rf rt c) 0 r (zit (dr1 c) 0 24 μ))
theorem dr1_o {c q : Nat} (h : q ≠ 141 ∧ q ≠ 142 ∧ q ≠ 143 ∧ q ≠ 144) (i : Nat) (ν : zMu) : dr1 c i ν q = ν q := by
  unfold dr1
  rw [zu_r h.2.2.2, zu_r h.2.2.1, zu_r h.2.1, zu_r h.1]
theorem dr2_o {rf rt : Nat → Nat} {c q : Nat} (h : q ≠ 142 ∧ q ≠ 143 ∧ q ≠ 144) (i : Nat) (ν : zMu) : dr2 rf rt c i ν q = ν q := by
  unfold dr2
  rw [dgv_o h, dgv_o h]
theorem dr3_o {c q : Nat} (h : q ≠ 130 ∧ q ≠ 131 ∧ q ≠ 132) : ∀ (n : Nat) (s : Int32 × zMu), (zit (dr3 c) 0 n s).2 q = s.2 q
  | 0, _ => rfl
  | n + 1, s => by
    rw [zit_s, dr3]
    by_cases h1 : (zit (dr3 c) 0 n s).2 144 (0 + n) ≤ 0
    · rw [if_pos h1, dr3_o h n s]
    · rw [if_neg h1]
      show zu _ _ _ _ q = _
      rw [zu_r h.2.2, zu_r h.2.1, zu_r h.1, dr3_o h n s]
theorem dr3_B {c : Nat} : ∀ (n : Nat) (s : Int32 × zMu), (∀ i, i < 288 → s.2 130 i = 0 ∨ s.2 130 i = 1) → ∀ i, i < 288 → (zit (dr3 c) 0 n s).2 130 i = 0 ∨ (zit (dr3 c) 0 n s).2 130 i = 1
  | 0, _, h => h
  | n + 1, s, h => fun i hi => by
    rw [zit_s, dr3]
    by_cases h1 : (zit (dr3 c) 0 n s).2 144 (0 + n) ≤ 0
    · rw [if_pos h1]; exact dr3_B n s h i hi
    · rw [if_neg h1]
      dsimp only
      rw [zu_r (by decide), zu_r (by decide)]
      by_cases h2 : i = 24 * c + (0 + n)
      · right; rw [h2, zu_s]; rfl
      · rw [zu_o2 h2]; exact dr3_B n s h i hi
theorem drounds_o {rf rt : Nat → Nat} {c r q : Nat} {μ : zMu} (h : (q ≠ 130 ∧ q ≠ 131 ∧ q ≠ 132) ∧ q ≠ 141 ∧ q ≠ 142 ∧ q ≠ 143 ∧ q ≠ 144) : (drounds rf rt c r μ).2 q = μ q := by
  unfold drounds
  rw [dr3_o h.1]
  show zit (dr2 rf rt c) 0 r _ q = _
  rw [zit_keep (dr2_o h.2.2), zit_keep (dr1_o h.2)]
theorem drounds_B {rf rt : Nat → Nat} {c r : Nat} {μ : zMu} (_ : c < 12) (h : ∀ i, i < 288 → μ 130 i = 0 ∨ μ 130 i = 1) : ∀ i, i < 288 → (drounds rf rt c r μ).2 130 i = 0 ∨ (drounds rf rt c r μ).2 130 i = 1 := by
  unfold drounds
  refine dr3_B 24 _ (fun i hi => ?_)
  dsimp only
  rw [zit_keep (dr2_o (by decide)), zit_keep (dr1_o (by decide))]
  exact h i hi
def dc1 (c i : Nat) (ν : zMu) : zMu := zu (zu (zu ν 130 (24 * c + i) (if i = 0 then nI 1 else nI 0)) 133 (24 * c + i) (ν 120 i)) 134 (24 * c + i) (-1)
def dc2 (c i : Nat) (ν : zMu) : zMu := zu ν 129 (3 * c + i) (nI 100)
theorem dc1_o {c q : Nat} (h : q ≠ 130 ∧ q ≠ 133 ∧ q ≠ 134) (i : Nat) (ν : zMu) : dc1 c i ν q = ν q := by
  unfold dc1
  rw [zu_r h.2.2, zu_r h.2.1, zu_r h.1]
theorem dc2_o {c q : Nat} (h : q ≠ 129) (i : Nat) (ν : zMu) : dc2 c i ν q = ν q := zu_r h
def dch0 (c : Nat) (μ : zMu) : zMu := zit (dc1 c) 0 24 μ
def dch1 (c : Nat) (μ : zMu) : zMu := zu (zu (dch0 c μ) 131 (24 * c + 0) (dch0 c μ 118 0)) 132 (24 * c + 0) (dch0 c μ 119 0)
def dch2 (c : Nat) (μ : zMu) : zMu := zit (dc2 c) 0 3 (dch1 c μ)
theorem dch2_o {c q : Nat} {μ : zMu} (h : q ≠ 129 ∧ (q ≠ 130 ∧ q ≠ 133 ∧ q ≠ 134) ∧ q ≠ 131 ∧ q ≠ 132) : dch2 c μ q = μ q := by
  unfold dch2
  rw [zit_keep (dc2_o h.1)]
  unfold dch1
  rw [zu_r h.2.2.2, zu_r h.2.2.1]
  unfold dch0
  rw [zit_keep (dc1_o h.2.1)]
theorem dc1_B {c : Nat} {μ : zMu} (h : ∀ i, i < 288 → μ 130 i = 0 ∨ μ 130 i = 1) : ∀ n i, i < 288 → zit (dc1 c) 0 n μ 130 i = 0 ∨ zit (dc1 c) 0 n μ 130 i = 1
  | 0 => h
  | n + 1 => fun i hi => by
    rw [zit_s, dc1, zu_r (by decide), zu_r (by decide)]
    by_cases h2 : i = 24 * c + (0 + n)
    · rw [h2, zu_s]
      split
      · right; rfl
      · left; rfl
    · rw [zu_o2 h2]; exact dc1_B h n i hi
theorem dch2_B {c : Nat} {μ : zMu} (_ : c < 12) (h : ∀ i, i < 288 → μ 130 i = 0 ∨ μ 130 i = 1) : ∀ i, i < 288 → dch2 c μ 130 i = 0 ∨ dch2 c μ 130 i = 1 := fun i hi => by
  unfold dch2
  rw [zit_keep (dc2_o (by decide))]
  unfold dch1
  rw [zu_r (by decide), zu_r (by decide)]
  exact dc1_B h 24 i hi
/-- the rounds, as often as they go on -/
def dwh (rf rt : Nat → Nat) (c r : Nat) : Nat → zMu → zMu
  | 0, μ => μ
  | n + 1, μ => if (drounds rf rt c r μ).1 = 0 then (drounds rf rt c r μ).2 else dwh rf rt c r n (drounds rf rt c r μ).2
def dws (rf rt : Nat → Nat) (c r : Nat) : Nat → zMu → Prop
  | 0, _ => False
  | n + 1, μ => (drounds rf rt c r μ).1 = 0 ∨ dws rf rt c r n (drounds rf rt c r μ).2
theorem dwh_o {rf rt : Nat → Nat} {c r q : Nat} (h : (q ≠ 130 ∧ q ≠ 131 ∧ q ≠ 132) ∧ q ≠ 141 ∧ q ≠ 142 ∧ q ≠ 143 ∧ q ≠ 144) : ∀ (n : Nat) (μ : zMu), dwh rf rt c r n μ q = μ q
  | 0, _ => rfl
  | n + 1, μ => by
    rw [dwh]
    split
    · exact drounds_o h
    · rw [dwh_o h n, drounds_o h]
theorem zuB {ν : zMu} {k n j : Nat} {x : Int32} (h : ∀ i, i < n → ν k i = 0 ∨ ν k i = 1) (hx : x = 0 ∨ x = 1) : ∀ i, i < n → zu ν k j x k i = 0 ∨ zu ν k j x k i = 1 := fun i hi => by
  by_cases h2 : i = j
  · rw [h2, zu_s]; exact hx
  · rw [zu_o2 h2]; exact h i hi
/-! copy -/
def dcpa (c d q : Nat) (nm : Nat → Nat) (way : Int32) (i : Nat) (ν : zMu) : zMu :=
  zu (zu (zu (zu ν 130 (24 * d + i) (ν 130 (24 * c + i))) 131 (24 * d + i) (zmade (ν 131 (24 * c + i)) way (ν 135 q))) 132 (24 * d + i) (zmade (ν 132 (24 * c + i)) way (-(ν 135 q)))) 133 (24 * d + i) (ν 136 (100 * q + nm i))
def dcp (c d q : Nat) (nm : Nat → Nat) (way : Int32) (i : Nat) (ν : zMu) : zMu := zu (dcpa c d q nm way i ν) 134 (24 * d + i) (if (dcpa c d q nm way i ν) 130 (24 * c + i) = 0 then -1 else nI c)
def dcs (c d i : Nat) (ν : zMu) : zMu := zu ν 129 (3 * d + i) (ν 129 (3 * c + i))
def dci (c d i : Nat) (ν : zMu) : zMu := zu ν 140 (20 * d + i) (ν 140 (20 * c + i))
theorem dcp_o {c d k : Nat} {nm : Nat → Nat} {way : Int32} {q : Nat} (h : q ≠ 130 ∧ q ≠ 131 ∧ q ≠ 132 ∧ q ≠ 133 ∧ q ≠ 134) (i : Nat) (ν : zMu) : dcp c d k nm way i ν q = ν q := by
  unfold dcp
  rw [zu_r h.2.2.2.2]
  unfold dcpa
  rw [zu_r h.2.2.2.1, zu_r h.2.2.1, zu_r h.2.1, zu_r h.1]
theorem dcs_o {c d q : Nat} (h : q ≠ 129) (i : Nat) (ν : zMu) : dcs c d i ν q = ν q := zu_r h
theorem dci_o {c d q : Nat} (h : q ≠ 140) (i : Nat) (ν : zMu) : dci c d i ν q = ν q := zu_r h
def dcopy (c d k : Nat) (nm : Nat → Nat) (way y : Int32) (ni : Nat) (μ : zMu) : zMu := zu (zu (zit (dci c d) 0 ni (zit (dcs c d) 0 3 (zit (dcp c d k nm way) 0 24 μ))) 128 d y) 117 13 (nI (d + 1))
/-! chains -/
def dnx (μ : zMu) (p : Nat) (l : Int32) : Int32 := if l = -1 then -1 else znx μ l.toNatClampNeg p
theorem dnx_n {μ : zMu} {p j : Nat} (h : j < 12) : dnx μ p (nI j) = znx μ j p := by
  have h9 : ¬ nI j = -1 := fun q => nI_pos (n := j) (by omega) (by rw [q]; decide)
  rw [dnx, if_neg h9, nI_clamp (by omega)]
def dst (μ : zMu) (p a : Nat) : Nat → Int32 → Prop
  | 0, _ => False
  | n + 1, l => l = -1 ∨ l = nI a ∨ dst μ p a n (dnx μ p l)
def dhit (μ : zMu) (p a : Nat) : Nat → Int32 → Prop
  | 0, _ => False
  | n + 1, l => ¬ l = -1 ∧ (l = nI a ∨ dhit μ p a n (dnx μ p l))
/-- every link is a chart or none -/
abbrev zlks (μ : zMu) (p : Nat) : Prop := ∀ j, j < 12 → znx μ j p = -1 ∨ ∃ i, i < 12 ∧ znx μ j p = nI i
abbrev dl0 (μ : zMu) (b p : Nat) : Int32 := if μ 130 (24 * b + p) = 0 then -1 else nI b
/-! paste -/
def dpaa (a b : Nat) (x y : Int32) (i : Nat) (ν : zMu) : zMu :=
  zu (zu (zu (zu ν 130 (24 * a + i) (ν 130 (24 * b + i))) 131 (24 * a + i) (ν 131 (24 * b + i) + x)) 132 (24 * a + i) (ν 132 (24 * b + i) + y)) 133 (24 * a + i) (ν 133 (24 * b + i))
def dpab (a b : Nat) (x y : Int32) (i : Nat) (ν : zMu) : zMu := zu (dpaa a b x y i ν) 134 (24 * a + i) (if (dpaa a b x y i ν) 130 (24 * b + i) = 0 then -1 else nI b)
def dpa (a b : Nat) (x y : Int32) (i : Nat) (s : Int32 × zMu) : Int32 × zMu := (s.1 + (if (dpaa a b x y i s.2) 130 (24 * b + i) = 0 then nI 0 else nI 1), dpab a b x y i s.2)
def dmv (μ : zMu) (a b f q : Nat) : Int32 := if ¬ μ 130 (24 * a + f) = 0 ∧ ¬ μ 130 (24 * b + f) = 0 then μ q (24 * a + f) - μ q (24 * b + f) else nI 0
/-! shrink, lose -/
abbrev dcnP (μ : zMu) (c : Nat) (h : Int32) (i : Nat) : Prop := μ 130 (24 * c + i) = 0 ∨ (zin (μ 131 (24 * c + i) * h / nI 100) (nI 9999) ∧ zin (μ 132 (24 * c + i) * h / nI 100) (nI 9999))
def dcan (μ : zMu) (c : Nat) (h : Int32) (i : Nat) (s : Int32) : Int32 := if s = 0 then nI 0 else if dcnP μ c h i then nI 1 else nI 0
def dshr (c : Nat) (h : Int32) (i : Nat) (ν : zMu) : zMu := zu (zu ν 131 (24 * c + i) (ν 131 (24 * c + i) * h / nI 100)) 132 (24 * c + i) (ν 132 (24 * c + i) * h / nI 100)
def dlo (c i : Nat) (s : Int32 × zMu) : Int32 × zMu := (s.1 + (if s.2 130 (24 * c + i) = 0 then nI 0 else nI 1), zu (zu (zu (zu s.2 130 (24 * c + i) (nI 0)) 131 (24 * c + i) (nI 0)) 132 (24 * c + i) (nI 0)) 134 (24 * c + i) (-1))
/-! what is asked -/
def dof (μ : zMu) (c i : Nat) (s : Int32 × Int32) : Int32 × Int32 := (s.1 + (if μ 130 (24 * c + i) = 0 then nI 0 else nI 1), s.2 + (if μ 133 (24 * c + i) = μ 120 i then nI 0 else nI 1))
def ddr (μ : zMu) (c i : Nat) (s : Int32) : Int32 := s + (if μ 140 (20 * c + i) = 0 then nI 0 else nI 1)
def doi (μ : zMu) (k i : Nat) (s : Int32 × Int32) : Int32 × Int32 := (s.1 + (if μ 140 (20 * i + k) = 0 then nI 0 else nI 1), if μ 140 (20 * i + k) = 0 then s.2 else nI i)
def dsf (c i : Nat) (s : Int32 × zMu) : Int32 × zMu := if s.2 130 (24 * c + i) = 0 then s else (s.1 + 1, zu (zu s.2 117 32 (s.2 117 32 + (s.2 131 (24 * c + i) - s.2 118 i))) 117 33 (s.2 117 33 + (s.2 132 (24 * c + i) - s.2 119 i)))
def dqu (n x : Int32) : Int32 := if n = 0 then nI 0 else x / n
def dshift0 (c b : Nat) (μ : zMu) : Int32 × zMu := zit (dsf c) (8 * b) 8 (nI 0, zu (zu μ 117 32 (nI 0)) 117 33 (nI 0))
def dshifts (c b : Nat) (μ : zMu) : zMu := zu (zu (dshift0 c b μ).2 117 32 (dqu (dshift0 c b μ).1 ((dshift0 c b μ).2 117 32))) 117 33 (dqu (dshift0 c b μ).1 ((dshift0 c b μ).2 117 33))
def dfi (μ : zMu) (c : Nat) (i : Nat) (s : Int32) : Int32 := s + (if μ 130 (24 * c + i) = 0 then nI 0 else zsz (μ 131 (24 * c + i) - μ 118 i - μ 117 32) + zsz (μ 132 (24 * c + i) - μ 119 i - μ 117 33))
abbrev dsA (μ : zMu) (c d i : Nat) : Prop := ¬ μ 130 (24 * c + i) = 0 ∧ ¬ μ 130 (24 * d + i) = 0 ∧ μ 131 (24 * c + i) = μ 131 (24 * d + i) ∧ μ 132 (24 * c + i) = μ 132 (24 * d + i) ∧ (¬ μ 131 (24 * c + i) = μ 118 i ∨ ¬ μ 132 (24 * c + i) = μ 119 i)
abbrev dsB (μ : zMu) (c d i : Nat) : Prop := μ 133 (24 * c + i) = μ 133 (24 * d + i) ∧ ¬ μ 133 (24 * c + i) = μ 120 i
def dsb (μ : zMu) (c d i : Nat) (s : Int32) : Int32 := (s + (if dsA μ c d i then nI 1 else nI 0)) + (if dsB μ c d i then nI 1 else nI 0)
def dsi (μ : zMu) (c d i : Nat) (s : Int32) : Int32 := s + (if ¬ μ 140 (20 * c + i) = 0 ∧ ¬ μ 140 (20 * d + i) = 0 then nI 1 else nI 0)
def dshared (μ : zMu) (c d b ni : Nat) : Int32 := zit (dsi μ c d) 0 ni (zit (dsb μ c d) (8 * b) 8 (nI 0))
def dki (μ : zMu) (c b ni i : Nat) (s : Int32 × Int32) : Int32 × Int32 := (if dshared μ c i b ni ≤ s.2 then s.1 else nI i, if dshared μ c i b ni ≤ s.2 then s.2 else dshared μ c i b ni)
def dda (μ : zMu) (c i : Nat) (s : Int32) : Int32 := if μ 133 (24 * c + i) = μ 120 i then (if μ 121 i ≤ s then s else μ 121 i) else s
def zof8 (μ : zMu) (c ni : Nat) : Nat → Int32
  | 0 => μ 128 c
  | 1 => (zit (dof μ c) 0 24 (nI 0, nI 0)).1
  | 2 => zit (ddr μ c) 0 ni (nI 0)
  | 3 => μ 129 (3 * c + 3 - 3)
  | 4 => μ 129 (3 * c + 4 - 3)
  | 5 => μ 129 (3 * c + 5 - 3)
  | _ => (zit (dof μ c) 0 24 (nI 0, nI 0)).2
def zoi8 (μ : zMu) (nc i : Nat) : Nat → Int32
  | 0 => (zit (doi μ i) 0 nc (nI 0, -1)).1
  | 1 => μ 137 i
  | 2 => μ 138 i
  | 3 => μ 139 i
  | _ => (zit (doi μ i) 0 nc (nI 0, -1)).2
def zfi8 (μ : zMu) (c b : Nat) : Nat → Int32
  | 0 => μ 117 32
  | 1 => μ 117 33
  | _ => zit (dfi μ c) (8 * b) 8 (nI 0)
theorem zB_cong {p q : Prop} (h : p ↔ q) : zB p = zB q := by rw [propext h]
abbrev dpP (μ : zMu) (a b n : Nat) (x y : Int32) (i : Nat) : Prop := ¬ dhit μ i a n (dl0 μ b i) ∧ znr μ (24 * b + i) x y
theorem znm1 {a : Nat} (h : a < 2147483648) : ¬ (-1 : Int32) = nI a := fun q => nI_pos (n := a) h (by rw [← q]; decide)
