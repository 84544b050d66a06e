/-! the coast, the pilots, the reports: what is told -/
def qT (μ ν : zMu) (p : Nat) : Prop := ∀ i, i < p → μ 3 i = ν 4 i ∧ μ 4 i = ν 4 (10 + i) ∧ μ 5 i = ν 4 (20 + i) ∧ rb 500 (ν 4 i) ∧ rb 500 (ν 4 (10 + i)) ∧ ∃ m, 1 ≤ m ∧ m ≤ 12 ∧ ν 4 (20 + i) = nI m
def qO (μ : zMu) : Prop := ∀ i, 10 ≤ i → i < 24 → μ 5 i = nI (i + 1)
def qR (μ ν : zMu) : Prop := (∀ k, k < 3 ∨ 14 < k → μ k = u0 k) ∧ ∀ a, a ≠ 4 → a ≠ 9 → a ≠ 10 → ν a = fun _ => 0
def qP (μ ν : zMu) (np : Nat) : Prop := ∀ q, q < np → μ 8 q = ν 10 (2 * q) ∧ μ 9 q = ν 10 (2 * q + 1) ∧ rb 30 (ν 10 (2 * q)) ∧ rb 30 (ν 10 (2 * q + 1))
def cI (μ ν : zMu) (p : Nat) : Prop := qT μ ν p ∧ qO μ ∧ qR μ ν ∧ (μ 7 2 = nI 0 ∧ μ 10 4 = nI 0) ∧ ν 9 = (fun _ => 0) ∧ ν 10 = (fun _ => 0)
def pI (μ ν : zMu) (np : Nat) : Prop := qT μ ν 10 ∧ qO μ ∧ qR μ ν ∧ qP μ ν np ∧ μ 7 2 = nI np ∧ μ 10 4 = nI 0
def lI (μ ν : zMu) (nr : Nat) (rf rt : Nat → Nat) : Prop := qT μ ν 10 ∧ qO μ ∧ qR μ ν ∧ qP μ ν 2 ∧ μ 7 2 = nI 2 ∧ μ 10 4 = nI nr ∧ iL μ ν nr rf rt
theorem qO_0 : qO u0 := by
  have h : ∀ i, i < 24 → 10 ≤ i → u0 5 i = nI (i + 1) := by decide +kernel
  exact fun i h1 h2 => h i h2 h1
theorem cI_0 : cI u0 (fun _ _ => 0) 0 := ⟨fun i hi => absurd hi (Nat.not_lt_zero i), qO_0, ⟨fun _ _ => rfl, fun _ _ _ _ => rfl⟩, ⟨by decide +kernel, by decide +kernel⟩, rfl, rfl⟩
theorem cI_s {μ ν : zMu} {p m : Nat} {x y w : Int32} (h : cI μ ν p) (hp : p < 10) (hx : rb 500 x) (hy : rb 500 y) (h1 : 1 ≤ m) (h2 : m ≤ 12) : cI (zu (zu (zu (zu μ 3 p x) 4 p y) 5 p (nI m)) 6 p w) (zu (zu (zu ν 4 p x) 4 (10 + p) y) 4 (20 + p) (nI m)) (p + 1) := by
  obtain ⟨hT, hO, ⟨hR1, hR2⟩, ⟨hp2, hr⟩, h9, h10⟩ := h
  refine ⟨fun i hi => ?_, fun i h3 h4 => ?_, ⟨fun k hk => ?_, fun a ha1 ha2 ha3 => ?_⟩, ⟨?_, ?_⟩, ?_, ?_⟩
  · by_cases e : i = p
    · subst e
      refine ⟨?_, ?_, ?_, ?_, ?_, m, h1, h2, zu_s⟩
      · rw [zu_o (by decide), zu_o (by decide), zu_o (by decide), zu_s, zu_o2 (by omega), zu_o2 (by omega), zu_s]
      · rw [zu_o (by decide), zu_o (by decide), zu_s, zu_o2 (by omega), zu_s]
      · rw [zu_o (by decide), zu_s, zu_s]
      · rw [zu_o2 (by omega), zu_o2 (by omega), zu_s]; exact hx
      · rw [zu_o2 (by omega), zu_s]; exact hy
    · obtain ⟨a1, a2, a3, a4, a5, a6⟩ := hT i (by omega)
      have om : ∀ q, (zu (zu (zu (zu μ 3 p x) 4 p y) 5 p (nI m)) 6 p w) q i = μ q i := fun q => by rw [zu_o2 e, zu_o2 e, zu_o2 e, zu_o2 e]
      have on : ∀ j, j ≠ p → j ≠ 10 + p → j ≠ 20 + p → (zu (zu (zu ν 4 p x) 4 (10 + p) y) 4 (20 + p) (nI m)) 4 j = ν 4 j := fun j j1 j2 j3 => by rw [zu_o2 j3, zu_o2 j2, zu_o2 j1]
      rw [om, om, om, on i (by omega) (by omega) (by omega), on (10 + i) (by omega) (by omega) (by omega), on (20 + i) (by omega) (by omega) (by omega)]
      exact ⟨a1, a2, a3, a4, a5, a6⟩
  · rw [zu_o (by decide), zu_o2 (by omega), zu_o (by decide), zu_o (by decide)]
    exact hO i h3 h4
  · rw [zu_r (by omega), zu_r (by omega), zu_r (by omega), zu_r (by omega)]
    exact hR1 k hk
  · rw [zu_r ha1, zu_r ha1, zu_r ha1]
    exact hR2 a ha1 ha2 ha3
  · rw [zu_r (by decide), zu_r (by decide), zu_r (by decide), zu_r (by decide)]; exact hp2
  · rw [zu_r (by decide), zu_r (by decide), zu_r (by decide), zu_r (by decide)]; exact hr
  · rw [zu_r (by decide), zu_r (by decide), zu_r (by decide)]; exact h9
  · rw [zu_r (by decide), zu_r (by decide), zu_r (by decide)]; exact h10
theorem pI_0 {μ ν : zMu} (h : cI μ ν 10) : pI μ ν 0 := ⟨h.1, h.2.1, h.2.2.1, fun q hq => absurd hq (Nat.not_lt_zero q), h.2.2.2.1.1, h.2.2.2.1.2⟩
theorem pI_s {μ ν : zMu} {k : Nat} {x y : Int32} (h : pI μ ν k) (hx : rb 30 x) (hy : rb 30 y) : pI (zu (zu (zu μ 8 k x) 9 k y) 7 2 (nI (k + 1))) (zu (zu ν 10 (2 * k) x) 10 (2 * k + 1) y) (k + 1) := by
  obtain ⟨hT, hO, ⟨hR1, hR2⟩, hP, hp2, hr⟩ := h
  refine ⟨?_, ?_, ⟨fun q hq => ?_, fun a ha1 ha2 ha3 => ?_⟩, fun q hq => ?_, zu_s, ?_⟩
  · unfold qT at hT ⊢
    rw [zu_r (by decide), zu_r (by decide), zu_r (by decide), zu_r (by decide), zu_r (by decide), zu_r (by decide), zu_r (by decide), zu_r (by decide), zu_r (by decide), zu_r (by decide), zu_r (by decide)]
    exact hT
  · unfold qO at hO ⊢
    rw [zu_r (by decide), zu_r (by decide), zu_r (by decide)]
    exact hO
  · rw [zu_r (by omega), zu_r (by omega), zu_r (by omega)]
    exact hR1 q hq
  · rw [zu_r ha3, zu_r ha3]
    exact hR2 a ha1 ha2 ha3
  · by_cases e : q = k
    · subst e
      rw [zu_o (show 8 ≠ 7 by decide), zu_o (show 8 ≠ 9 by decide), zu_s, zu_o (show 9 ≠ 7 by decide), zu_s, zu_o2 (show 2 * q ≠ 2 * q + 1 by omega), zu_s, zu_s]
      exact ⟨rfl, rfl, hx, hy⟩
    · rw [zu_o (show 8 ≠ 7 by decide), zu_o (show 8 ≠ 9 by decide), zu_o2 e, zu_o (show 9 ≠ 7 by decide), zu_o2 e, zu_o (show 9 ≠ 8 by decide), zu_o2 (show 2 * q ≠ 2 * k + 1 by omega), zu_o2 (show 2 * q ≠ 2 * k by omega), zu_o2 (show 2 * q + 1 ≠ 2 * k + 1 by omega), zu_o2 (show 2 * q + 1 ≠ 2 * k by omega)]
      exact hP q (by omega)
  · rw [zu_r (by decide), zu_r (by decide), zu_r (by decide)]
    exact hr
theorem lI_0 {μ ν : zMu} {rf rt : Nat → Nat} (h : pI μ ν 2) : lI μ ν 0 rf rt := ⟨h.1, h.2.1, h.2.2.1, h.2.2.2.1, h.2.2.2.2.1, h.2.2.2.2.2, fun k hk => absurd hk (Nat.not_lt_zero k)⟩
/-- a run, as the law reckons it -/
def rX (ν : zMu) (q f t : Nat) : Int32 := (ν 4 t - ν 4 f) - (ν 4 (10 + t) - ν 4 (10 + f)) * ν 10 (2 * q) / nI 100
def rY9 (ν : zMu) (q f t : Nat) : Int32 := (ν 4 (10 + t) - ν 4 (10 + f)) + (ν 4 t - ν 4 f) * ν 10 (2 * q) / nI 100
theorem rX_eq {μ ν : zMu} {q f t : Nat} (hT : qT μ ν 10) (hP : qP μ ν 2) (hq : q < 2) (hf : f < 10) (ht : t < 10) : zrx μ q f t = rX ν q f t ∧ zry μ q f t = rY9 ν q f t ∧ μ 9 q = ν 10 (2 * q + 1) ∧ rb 1690 (rX ν q f t + rX ν q f t * ν 10 (2 * q + 1) / nI 100) ∧ rb 1690 (rY9 ν q f t + rY9 ν q f t * ν 10 (2 * q + 1) / nI 100) := by
  obtain ⟨f1, f2, -, f3, f4, -⟩ := hT f hf
  obtain ⟨t1, t2, -, t3, t4, -⟩ := hT t ht
  obtain ⟨p1, p2, p3, p4⟩ := hP q hq
  have dx : rb 1000 (ν 4 t - ν 4 f) := rb_sub t3 f3 (by omega) (by omega)
  have dy : rb 1000 (ν 4 (10 + t) - ν 4 (10 + f)) := rb_sub t4 f4 (by omega) (by omega)
  have ex : rb 300 ((ν 4 t - ν 4 f) * ν 10 (2 * q) / nI 100) := rb_div (rb_mul dx p3 (Nat.le_refl 30000) (by omega)) (by omega) (by decide)
  have ey : rb 300 ((ν 4 (10 + t) - ν 4 (10 + f)) * ν 10 (2 * q) / nI 100) := rb_div (rb_mul dy p3 (Nat.le_refl 30000) (by omega)) (by omega) (by decide)
  have ax : rb 1300 (rX ν q f t) := rb_sub dx ey (by omega) (by omega)
  have ay : rb 1300 (rY9 ν q f t) := rb_add dy ex (by omega) (by omega)
  refine ⟨?_, ?_, p2, rb_add ax (rb_div (d := 100) (rb_mul ax p4 (Nat.le_refl 39000) (by omega)) (by omega) (Nat.le_refl 390)) (by omega) (by omega), rb_add ay (rb_div (d := 100) (rb_mul ay p4 (Nat.le_refl 39000) (by omega)) (by omega) (Nat.le_refl 390)) (by omega) (by omega)⟩
  · unfold zrx rX
    rw [f1, f2, t1, t2, p1]
  · unfold zry rY9
    rw [f1, f2, t1, t2, p1]
def zup (f : Nat → Nat) (k x : Nat) : Nat → Nat := fun i => if i = k then x else f i
theorem zup_s {f : Nat → Nat} {k x : Nat} : zup f k x k = x := if_pos rfl
theorem zup_o {f : Nat → Nat} {k x i : Nat} (h : i ≠ k) : zup f k x i = f i := if_neg h
theorem lI_s {μ ν : zMu} {k f t : Nat} {rf rt : Nat → Nat} {x y : Int32} (h : lI μ ν k rf rt) (hf : f < 10) (ht : t < 10) (hx : rb 1690 x) (hy : rb 1690 y) : lI (zu (zu (zu (zu (zu μ 11 k (nI f)) 12 k (nI t)) 13 k x) 14 k y) 10 4 (nI (k + 1))) (zu (zu (zu (zu ν 9 (4 * k) (nI f)) 9 (4 * k + 1) (nI t)) 9 (4 * k + 2) x) 9 (4 * k + 3) y) (k + 1) (zup rf k f) (zup rt k t) := by
  obtain ⟨hT, hO, ⟨hR1, hR2⟩, hP, hp2, hr, hL⟩ := h
  have o : ∀ q, q < 10 ∨ 14 < q → (zu (zu (zu (zu (zu μ 11 k (nI f)) 12 k (nI t)) 13 k x) 14 k y) 10 4 (nI (k + 1))) q = μ q := fun q hq => by rw [zu_r (by omega), zu_r (by omega), zu_r (by omega), zu_r (by omega), zu_r (by omega)]
  have o2 : ∀ a, a ≠ 9 → (zu (zu (zu (zu ν 9 (4 * k) (nI f)) 9 (4 * k + 1) (nI t)) 9 (4 * k + 2) x) 9 (4 * k + 3) y) a = ν a := fun a ha => by rw [zu_r ha, zu_r ha, zu_r ha, zu_r ha]
  refine ⟨?_, ?_, ⟨fun q hq => ?_, fun a ha1 ha2 ha3 => ?_⟩, ?_, ?_, zu_s, fun i hi => ?_⟩
  · unfold qT at hT ⊢
    rw [o 3 (by omega), o 4 (by omega), o 5 (by omega), o2 4 (by omega)]
    exact hT
  · unfold qO at hO ⊢
    rw [o 5 (by omega)]
    exact hO
  · rw [o q (by omega)]
    exact hR1 q hq
  · rw [o2 a ha2]
    exact hR2 a ha1 ha2 ha3
  · unfold qP at hP ⊢
    rw [o 8 (by omega), o 9 (by omega), o2 10 (by omega)]
    exact hP
  · rw [o 7 (by omega)]
    exact hp2
  · by_cases e : i = k
    · subst e
      rw [zu_o (show 11 ≠ 10 by decide), zu_o (show 12 ≠ 10 by decide), zu_o (show 13 ≠ 10 by decide), zu_o (show 14 ≠ 10 by decide), zu_o (show 11 ≠ 14 by decide), zu_o (show 12 ≠ 14 by decide), zu_o (show 13 ≠ 14 by decide), zu_o (show 11 ≠ 13 by decide), zu_o (show 12 ≠ 13 by decide), zu_o (show 11 ≠ 12 by decide)]
      rw [zup_s, zup_s, zu_s, zu_s, zu_s, zu_s, zu_o2 (show 4 * i ≠ 4 * i + 3 by omega), zu_o2 (show 4 * i ≠ 4 * i + 2 by omega), zu_o2 (show 4 * i ≠ 4 * i + 1 by omega), zu_s, zu_o2 (show 4 * i + 1 ≠ 4 * i + 3 by omega), zu_o2 (show 4 * i + 1 ≠ 4 * i + 2 by omega), zu_s, zu_o2 (show 4 * i + 2 ≠ 4 * i + 3 by omega), zu_s, zu_s]
      exact ⟨⟨rfl, rfl, hf, ht⟩, ⟨rfl, rfl⟩, ⟨rfl, rfl⟩, hx, hy⟩
    · have om : ∀ q, q ≠ 10 → (zu (zu (zu (zu (zu μ 11 k (nI f)) 12 k (nI t)) 13 k x) 14 k y) 10 4 (nI (k + 1))) q i = μ q i := fun q hq => by rw [zu_o hq, zu_o2 e, zu_o2 e, zu_o2 e, zu_o2 e]
      have on : ∀ j, j < 4 → (zu (zu (zu (zu ν 9 (4 * k) (nI f)) 9 (4 * k + 1) (nI t)) 9 (4 * k + 2) x) 9 (4 * k + 3) y) 9 (4 * i + j) = ν 9 (4 * i + j) := fun j hj => by rw [zu_o2 (by omega), zu_o2 (by omega), zu_o2 (by omega), zu_o2 (by omega)]
      have o0 : (zu (zu (zu (zu ν 9 (4 * k) (nI f)) 9 (4 * k + 1) (nI t)) 9 (4 * k + 2) x) 9 (4 * k + 3) y) 9 (4 * i) = ν 9 (4 * i) := on 0 (by omega)
      rw [zup_o e, zup_o e, om 11 (by decide), om 12 (by decide), om 13 (by decide), om 14 (by decide), o0, on 1 (by omega), on 2 (by omega), on 3 (by omega)]
      exact hL i (by omega)
theorem znm_nI {n : Nat} (h1 : 1 ≤ n) (h2 : n ≤ 99) : znm (nI n) := ⟨fun q => by have := (nI_ltI (a := n) (b := 1) (by omega) (by omega)).mp q; omega, fun q => by have := (nI_ltI (a := 99) (b := n) (by omega) (by omega)).mp q; omega⟩
theorem zyr_nI {n : Nat} (h2 : n ≤ 2000) : zyr (nI n) := ⟨nI_pos (by omega), fun q => by have := (nI_ltI (a := 2000) (b := n) (by omega) (by omega)).mp q; omega⟩
/-- the readings, as the law keeps them at first -/
def read0 (ν : zMu) (k : Nat) : zMu := zit (fun i ν => zu ν 8 i (nI (i % 16))) 0 k ν
theorem read0_o {ν : zMu} {a : Nat} (h : a ≠ 8) (k : Nat) : read0 ν k a = ν a := zit_keep (fun i ν => zu_r h) ν k
theorem read0_s {ν : zMu} {j : Nat} : ∀ k, j < k → read0 ν k 8 j = nI (j % 16)
  | 0, h => absurd h (Nat.not_lt_zero j)
  | k + 1, h => by
    unfold read0
    rw [zit_s, Nat.zero_add]
    by_cases e : j = k
    · subst e; rw [zu_s]
    · rw [zu_o2 e]
      exact read0_s k (by omega)
theorem iv_0 {μ ν : zMu} {nr : Nat} {rf rt : Nat → Nat} (h : lI μ ν nr rf rt) (h6 : 6 ≤ nr) (h13 : nr ≤ 13) : iv μ (read0 ν 64) 0 nr 0 rf rt := by
  obtain ⟨hT, hO, ⟨hR1, hR2⟩, -, -, hr, hL⟩ := h
  refine ⟨⟨⟨?_, by omega⟩, ⟨hr, h6, h13⟩, ?_, by omega⟩, ⟨fun p hp => ?_, hO⟩, ?_, fun q hq => ⟨⟨?_, ?_⟩, fun m h1 h2 => ⟨?_, m, h1, h2, ?_⟩, fun m h1 h2 => ?_⟩, ⟨fun k hk => ⟨0, by omega, ?_, fun c hc => ?_⟩, fun c hc i hi => ⟨?_, fun _ => ?_⟩⟩, fun c hc => absurd hc (Nat.not_lt_zero c), fun p _ => ⟨fun _ => 0, fun c hc => absurd hc (Nat.not_lt_zero c)⟩⟩
  · rw [hR1 1 (by omega)]; decide +kernel
  · rw [hR1 21 (by omega)]; decide +kernel
  · rw [read0_o (by decide)]; exact hT p hp
  · unfold iL at hL ⊢
    rw [read0_o (by decide)]; exact hL
  · rw [hR1 (25 + 2 * q) (by omega), read0_o (by decide), hR2 7 (by decide) (by decide) (by decide)]
    have h : ∀ q, q < 4 → u0 (25 + 2 * q) 0 = 0 := by decide +kernel
    exact h q hq
  · rw [read0_o (by decide), hR2 7 (by decide) (by decide) (by decide)]
    show rb 9 (0 : Int32)
    unfold rb; decide
  · rw [hR1 (26 + 2 * q) (by omega), read0_s 64 (by omega)]
    have h : ∀ q, q < 4 → ∀ m, m < 13 → u0 (26 + 2 * q) m = nI ((16 * q + m) % 16) := by decide +kernel
    exact h q hq m (by omega)
  · rw [read0_s 64 (by omega)]
    congr 1
    omega
  · rw [hR1 (26 + 2 * q) (by omega)]
    have h : ∀ q, q < 4 → ∀ m, m < 100 → u0 (26 + 2 * q) m = nI m := by decide +kernel
    exact h q hq m h2
  · rw [read0_o (by decide), hR2 5 (by decide) (by decide) (by decide)]; rfl
  · rw [read0_o (by decide), hR2 5 (by decide) (by decide) (by decide), hR1 (39 + 7 * c) (by omega)]
    have h : ∀ c, c < 5 → ∀ k, k < 4 → sbv 0 c = u0 (39 + 7 * c) k := by decide +kernel
    exact h c hc k hk
  · rw [hR1 (39 + 7 * c) (by omega)]
    have h : ∀ c, c < 12 → ∀ i, i < 20 → u0 (39 + 7 * c) i = 0 := by decide +kernel
    exact Or.inl (h c hc i hi)
  · rw [hR1 (39 + 7 * c) (by omega)]
    have h : ∀ c, c < 12 → ∀ i, i < 20 → u0 (39 + 7 * c) i = 0 := by decide +kernel
    exact h c hc i hi
