/-! bounds -/
theorem rb_a {n : Nat} {x : Int32} : rb n x ↔ x.toInt.natAbs ≤ n := by unfold rb; omega
theorem bmod32 {z : Int} (h1 : -2147483648 ≤ z) (h2 : z < 2147483648) : z.bmod (2 ^ 32) = z := by
  rw [Int.bmod_eq_of_le (by omega) (by omega)]
theorem rb_m {a b : Nat} {x : Int32} (h : rb a x) (hb : a ≤ b) : rb b x := by
  unfold rb at h ⊢
  omega
theorem rb_add {a b n : Nat} {x y : Int32} (hx : rb a x) (hy : rb b y) (h : a + b ≤ n) (hn : n < 2147483648) : rb n (x + y) := by
  unfold rb at hx hy ⊢
  rw [Int32.toInt_add, bmod32 (by omega) (by omega)]
  omega
theorem rb_sub {a b n : Nat} {x y : Int32} (hx : rb a x) (hy : rb b y) (h : a + b ≤ n) (hn : n < 2147483648) : rb n (x - y) := by
  unfold rb at hx hy ⊢
  rw [Int32.toInt_sub, bmod32 (by omega) (by omega)]
  omega
theorem rb_neg {a : Nat} {x : Int32} (hx : rb a x) (ha : a < 2147483648) : rb a (-x) := by
  unfold rb at hx ⊢
  rw [Int32.toInt_neg, bmod32 (by omega) (by omega)]
  omega
theorem rb_mul {a b n : Nat} {x y : Int32} (hx : rb a x) (hy : rb b y) (h : a * b ≤ n) (hn : n < 2147483648) : rb n (x * y) := by
  rw [rb_a] at hx hy ⊢
  have e : (x.toInt * y.toInt).natAbs ≤ n := by
    rw [Int.natAbs_mul]
    exact Nat.le_trans (Nat.mul_le_mul hx hy) h
  rw [Int32.toInt_mul, bmod32 (by omega) (by omega)]
  exact e
theorem rb_div {a d n : Nat} {x : Int32} (hx : rb a x) (hd2 : d < 2147483648) (h : a / d ≤ n) : rb n (x / nI d) := by
  rw [rb_a] at hx ⊢
  have e : nI d ≠ -1 := fun q => znm1 hd2 q.symm
  rw [Int32.toInt_div_of_ne_right _ _ e, Int.natAbs_tdiv, nI_toInt (by omega), Int.natAbs_natCast]
  exact Nat.le_trans (Nat.div_le_div_right hx) h
theorem rb_zin {v : Int32} {e : Nat} (he : e < 2147483648) (h : zin v (nI e)) : rb e v := by
  have h1 := Int32.le_iff_toInt_le.mp (Int32.not_lt.mp h.1)
  have h2 := Int32.le_iff_toInt_le.mp (Int32.not_lt.mp h.2)
  rw [Int32.toInt_neg, nI_toInt he, bmod32 (by omega) (by omega)] at h1
  rw [nI_toInt he] at h2
  exact ⟨h1, h2⟩
/-! counting, ranks -/
noncomputable def zcnt (P : Nat → Prop) : Nat → Nat
  | 0 => 0
  | n + 1 => zcnt P n + @ite Nat (P n) (Classical.propDecidable _) 1 0
theorem zcnt_p {P : Nat → Prop} {n : Nat} (h : P n) : zcnt P (n + 1) = zcnt P n + 1 := by rw [zcnt, if_pos h]
theorem zcnt_q {P : Nat → Prop} {n : Nat} (h : ¬ P n) : zcnt P (n + 1) = zcnt P n := by rw [zcnt, if_neg h, Nat.add_zero]
theorem zcnt_n (P : Nat → Prop) : ∀ n, zcnt P n ≤ n
  | 0 => Nat.le_refl 0
  | n + 1 => by
    have h := zcnt_n P n
    by_cases p : P n
    · rw [zcnt_p p]; omega
    · rw [zcnt_q p]; omega
theorem zcnt_le {P Q : Nat → Prop} : ∀ n, (∀ i, i < n → P i → Q i) → zcnt P n ≤ zcnt Q n
  | 0, _ => Nat.le_refl 0
  | n + 1, h => by
    have h9 := zcnt_le n (fun i hi => h i (by omega))
    by_cases p : P n
    · rw [zcnt_p p, zcnt_p (h n (by omega) p)]; omega
    · rw [zcnt_q p]
      by_cases q : Q n
      · rw [zcnt_p q]; omega
      · rw [zcnt_q q]; omega
theorem zcnt_lt {P Q : Nat → Prop} {k : Nat} : ∀ n, (∀ i, i < n → P i → Q i) → k < n → ¬ P k → Q k → zcnt P n < zcnt Q n
  | 0, _, h, _, _ => absurd h (Nat.not_lt_zero k)
  | n + 1, h, hk, hp, hq => by
    by_cases e : k = n
    · subst e
      have h9 := zcnt_le k (fun i hi => h i (by omega))
      rw [zcnt_q hp, zcnt_p hq]
      omega
    · have h9 := zcnt_lt n (fun i hi => h i (by omega)) (by omega) hp hq
      by_cases p : P n
      · rw [zcnt_p p, zcnt_p (h n (by omega) p)]; omega
      · rw [zcnt_q p]
        by_cases q : Q n
        · rw [zcnt_p q]; omega
        · rw [zcnt_q q]; omega
theorem rank_b (h : Nat → Nat) (n : Nat) : ∃ g : Nat → Nat, (∀ c, c < n → g c < n) ∧ ∀ i j, i < n → h i < h j → g i < g j :=
  ⟨fun c => zcnt (fun i => h i < h c) n, fun c hc => Nat.lt_of_lt_of_le (zcnt_lt (Q := fun _ => True) n (fun _ _ _ => trivial) hc (Nat.lt_irrefl _) trivial) (zcnt_n _ n), fun i j hi hij => zcnt_lt n (fun k _ hk => Nat.lt_trans hk hij) hi (Nat.lt_irrefl _) hij⟩
/-! folds that write a place a turn -/
theorem zit_pt {f : Nat → zMu → zMu} {a N q : Nat} {S : Nat → Prop} (h1 : ∀ i ν k j, ¬ (S k ∧ j = q + i) → f i ν k j = ν k j)
    (h2 : ∀ i ν ν', a ≤ i → i < a + N → (∀ k j, (S k → j = q + i ∨ ¬ (q + a ≤ j ∧ j < q + a + N)) → ν k j = ν' k j) → ∀ k, S k → f i ν k (q + i) = f i ν' k (q + i)) (μ : zMu) :
    ∀ n, n ≤ N → (∀ k i, S k → a ≤ i → i < a + n → zit f a n μ k (q + i) = f i μ k (q + i)) ∧ (∀ k j, ¬ (S k ∧ q + a ≤ j ∧ j < q + a + n) → zit f a n μ k j = μ k j)
  | 0, _ => ⟨fun k i _ h3 h4 => absurd h4 (by omega), fun k j _ => rfl⟩
  | n + 1, hn => by
    obtain ⟨i1, i2⟩ := zit_pt h1 h2 μ n (by omega)
    refine ⟨fun k i hk h3 h4 => ?_, fun k j hj => ?_⟩
    · rw [zit_s]
      by_cases e : i = a + n
      · subst e
        refine h2 (a + n) _ _ (by omega) (by omega) (fun k2 j2 hj2 => i2 k2 j2 (fun s => ?_)) k hk
        rcases hj2 s.1 with e2 | e2
        · have := s.2.2; omega
        · have := s.2; omega
      · rw [h1 (a + n) _ k (q + i) (fun s => e (by have := s.2; omega))]
        exact i1 k i hk h3 (by omega)
    · rw [zit_s, h1 (a + n) _ k j (fun s => hj ⟨s.1, by have := s.2; omega, by have := s.2; omega⟩)]
      exact i2 k j (fun s => hj ⟨s.1, s.2.1, by have := s.2.2; omega⟩)
theorem zit_p0 {f : Nat → zMu → zMu} {a N : Nat} {S : Nat → Prop} (h1 : ∀ i ν k j, ¬ (S k ∧ j = i) → f i ν k j = ν k j)
    (h2 : ∀ i ν ν', a ≤ i → i < a + N → (∀ k j, (S k → j = i ∨ ¬ (a ≤ j ∧ j < a + N)) → ν k j = ν' k j) → ∀ k, S k → f i ν k i = f i ν' k i) (μ : zMu) :
    ∀ n, n ≤ N → (∀ k i, S k → a ≤ i → i < a + n → zit f a n μ k i = f i μ k i) ∧ (∀ k j, ¬ (S k ∧ a ≤ j ∧ j < a + n) → zit f a n μ k j = μ k j)
  | 0, _ => ⟨fun k i _ h3 h4 => absurd h4 (by omega), fun k j _ => rfl⟩
  | n + 1, hn => by
    obtain ⟨i1, i2⟩ := zit_p0 h1 h2 μ n (by omega)
    refine ⟨fun k i hk h3 h4 => ?_, fun k j hj => ?_⟩
    · rw [zit_s]
      by_cases e : i = a + n
      · subst e
        refine h2 (a + n) _ _ (by omega) (by omega) (fun k2 j2 hj2 => i2 k2 j2 (fun s => ?_)) k hk
        rcases hj2 s.1 with e2 | e2
        · have := s.2.2; omega
        · have := s.2; omega
      · rw [h1 (a + n) _ k i (fun s => e s.2)]
        exact i1 k i hk h3 (by omega)
    · rw [zit_s, h1 (a + n) _ k j (fun s => hj ⟨s.1, by have := s.2; omega, by have := s.2; omega⟩)]
      exact i2 k j (fun s => hj ⟨s.1, s.2.1, by have := s.2.2; omega⟩)
section ZPUT
variable {ν : zMu} {c p k j : Nat} {x y s : Int32}
theorem zput_x : zput ν c p x y s (34 + 7 * c) p = x := by unfold zput; rw [zu_o (by omega), zu_o (by omega), zu_s]
theorem zput_y : zput ν c p x y s (35 + 7 * c) p = y := by unfold zput; rw [zu_o (by omega), zu_s]
theorem zput_z : zput ν c p x y s (37 + 7 * c) p = s := by unfold zput; rw [zu_s]
theorem zput_n (h : ¬ ((k = 34 + 7 * c ∨ k = 35 + 7 * c ∨ k = 37 + 7 * c) ∧ j = p)) : zput ν c p x y s k j = ν k j := by
  unfold zput
  by_cases e : j = p
  · have h9 : ¬ (k = 34 + 7 * c ∨ k = 35 + 7 * c ∨ k = 37 + 7 * c) := fun q => h ⟨q, e⟩
    rw [zu_o (by omega), zu_o (by omega), zu_o (by omega)]
  · rw [zu_o2 e, zu_o2 e, zu_o2 e]
end ZPUT
/-! what joins them, where charts have changed -/
theorem zI_ch {μ ν : zMu} {nc nr np ni nc' : Nat} {rf rt : Nat → Nat} (o : ∀ k, k ≠ 1 → k ≠ 117 → (k < 15 ∨ 18 < k) → (k < 33 ∨ 116 < k) → (k < 128 ∨ 134 < k) → k < 140 → ν k = μ k)
    (h1 : ν 1 7 = nI nc') (h2 : ν 117 13 = nI nc') (h3 : nc' ≤ 12) (h5 : ν 117 5 = μ 117 5) (h8 : ν 117 8 = μ 117 8) (h23 : ν 117 23 = μ 117 23)
    (hN : rN μ nc nr np ni) (hC : rC μ) (hP : rP μ) (hL : rL μ nr rf rt) (hY : rY μ) (hI : rI μ) (hB : rB ν nc') (hF : rF ν nc' ni) (hK : rK ν nc') (hA : rA ν nc') : zInv ν := by
  obtain ⟨n1, n2, n3, n4⟩ := hN
  refine ⟨nc', nr, np, ni, rf, rt, ⟨⟨h1, h2, h3⟩, ⟨?_, ?_, n2.2.2⟩, ⟨?_, ?_, n3.2.2⟩, ⟨?_, ?_, n4.2.2⟩⟩, kC (fun k hk => o k (by omega) (by omega) (by omega) (by omega) (by omega) (by omega)) hC, kP (fun k hk => o k (by omega) (by omega) (by omega) (by omega) (by omega) (by omega)) hP, kL (fun k hk => o k (by omega) (by omega) (by omega) (by omega) (by omega) (by omega)) hL, kY (fun k hk => o k (by omega) (by omega) (by omega) (by omega) (by omega) (by omega)) hY, kI (fun k hk => o k (by omega) (by omega) (by omega) (by omega) (by omega) (by omega)) hI, hB, hF, hK, hA⟩
  · rw [o 10 (by omega) (by omega) (by omega) (by omega) (by omega) (by omega)]; exact n2.1
  · rw [h8]; exact n2.2.1
  · rw [o 7 (by omega) (by omega) (by omega) (by omega) (by omega) (by omega)]; exact n3.1
  · rw [h5]; exact n3.2.1
  · rw [o 21 (by omega) (by omega) (by omega) (by omega) (by omega) (by omega)]; exact n4.1
  · rw [h23]; exact n4.2.1
theorem rQ_v {μ ν : zMu} {nc nc' c p : Nat} (hn : nc ≤ nc') (e34 : ν (34 + 7 * c) p = μ (34 + 7 * c) p) (e35 : ν (35 + 7 * c) p = μ (35 + 7 * c) p) (e36 : ν (36 + 7 * c) p = μ (36 + 7 * c) p) (e37 : ν (37 + 7 * c) p = μ (37 + 7 * c) p)
    (e : ∀ k, 130 ≤ k → k ≤ 134 → ν k (24 * c + p) = μ k (24 * c + p)) (h : rQ μ nc c p) : rQ ν nc' c p := by
  unfold rQ at h ⊢
  rw [e34, e35, e36, e37, e 130 (by omega) (by omega), e 131 (by omega) (by omega), e 132 (by omega) (by omega), e 133 (by omega) (by omega), e 134 (by omega) (by omega)]
  refine ⟨h.1, h.2.1, ?_⟩
  rcases h.2.2 with ⟨a1, a2, a3, a4⟩ | a
  · refine Or.inl ⟨a1, a2, a3, ?_⟩
    rcases a4 with b | ⟨j, hj, b⟩
    · exact Or.inl b
    · exact Or.inr ⟨j, by omega, b⟩
  · exact Or.inr a
/-- some points of one chart have changed -/
theorem zI_row {μ ν : zMu} {nc nr np ni a : Nat} {rf rt : Nat → Nat} {P : Nat → Prop} (ha : a < nc) (hP24 : ∀ p, P p → p < 24)
    (o1 : ∀ k j, k < 117 → (k < 15 ∨ 18 < k) → ¬ ((k = 34 + 7 * a ∨ k = 35 + 7 * a ∨ k = 36 + 7 * a ∨ k = 37 + 7 * a) ∧ P j) → ν k j = μ k j)
    (o2 : ∀ k j, 117 ≤ k → k < 141 → ¬ (k = 117 ∧ j = 0) → ¬ ((130 ≤ k ∧ k ≤ 134) ∧ ∃ p, P p ∧ j = 24 * a + p) → ν k j = μ k j)
    (hN : rN μ nc nr np ni) (hC : rC μ) (hP : rP μ) (hL : rL μ nr rf rt) (hY : rY μ) (hI : rI μ) (hB : rB μ nc) (hF : rF μ nc ni) (hK : rK μ nc)
    (hfl : ∀ p, P p → ν 130 (24 * a + p) = 0 ∨ ν 130 (24 * a + p) = 1) (hrow : ∀ p, P p → rQ ν nc a p) (hA : rA ν nc) : zInv ν := by
  obtain ⟨n1, n2, n3, n4⟩ := id hN
  refine zI_ch (μ := μ) (nc' := nc) (fun k q1 q2 q3 q4 q5 q6 => funext fun j => ?_) ?_ ?_ n1.2.2 ?_ ?_ ?_ hN hC hP hL hY hI ?_ ?_ ?_ hA
  · by_cases h : k < 117
    · exact o1 k j h q3 (fun s => by have := s.1; omega)
    · exact o2 k j (by omega) (by omega) (fun s => q2 s.1) (fun s => by have := s.1; omega)
  · rw [o1 1 7 (by omega) (by omega) (fun s => by have := s.1; omega)]; exact n1.1
  · rw [o2 117 13 (by omega) (by omega) (fun s => by have := s.2; omega) (fun s => by have := s.1; omega)]; exact n1.2.1
  · exact o2 117 5 (by omega) (by omega) (fun s => by have := s.2; omega) (fun s => by have := s.1; omega)
  · exact o2 117 8 (by omega) (by omega) (fun s => by have := s.2; omega) (fun s => by have := s.1; omega)
  · exact o2 117 23 (by omega) (by omega) (fun s => by have := s.2; omega) (fun s => by have := s.1; omega)
  · intro i hi
    by_cases h : ∃ p, P p ∧ i = 24 * a + p
    · obtain ⟨p, hp, rfl⟩ := h
      have := hP24 p hp
      exact ⟨hfl p hp, fun q => by omega⟩
    · rw [o2 130 i (by omega) (by omega) (fun s => by have := s.1; omega) (fun s => h s.2)]
      exact hB i hi
  · intro c hc i hi
    rw [o1 (39 + 7 * c) i (by omega) (by omega) (fun s => by have := s.1; omega), o2 140 (20 * c + i) (by omega) (by omega) (fun s => by have := s.1; omega) (fun s => by have := s.1; omega)]
    exact hF c hc i hi
  · intro c hc
    have h12 := n1.2.2
    obtain ⟨a1, a2, a3⟩ := hK c hc
    refine ⟨?_, fun b hb => ?_, fun p hp => ?_⟩
    · rw [o1 (33 + 7 * c) 0 (by omega) (by omega) (fun s => by have := s.1; omega), o2 128 c (by omega) (by omega) (fun s => by have := s.1; omega) (fun s => by have := s.1; omega)]
      exact a1
    · rw [o1 (38 + 7 * c) b (by omega) (by omega) (fun s => by have := s.1; omega), o2 129 (3 * c + b) (by omega) (by omega) (fun s => by have := s.1; omega) (fun s => by have := s.1; omega)]
      exact a2 b hb
    · by_cases h : c = a ∧ P p
      · obtain ⟨rfl, hp2⟩ := h
        exact hrow p hp2
      · have hx : ∀ k, k < 117 → (k < 15 ∨ 18 < k) → (k = 34 + 7 * c ∨ k = 35 + 7 * c ∨ k = 36 + 7 * c ∨ k = 37 + 7 * c) → ν k p = μ k p := fun k q1 q2 q3 => o1 k p q1 q2 (fun s => h ⟨by have := s.1; omega, s.2⟩)
        refine rQ_v (Nat.le_refl _) (hx _ (by omega) (by omega) (by omega)) (hx _ (by omega) (by omega) (by omega)) (hx _ (by omega) (by omega) (by omega)) (hx _ (by omega) (by omega) (by omega)) (fun k q1 q2 => o2 k _ (by omega) (by omega) (fun s => by have := s.1; omega) (fun s => ?_)) (a3 p hp)
        obtain ⟨s1, p2, hp2, e⟩ := s
        have := hP24 p2 hp2
        have e1 : c = a := by omega
        have e2 : p2 = p := by omega
        subst e2
        exact h ⟨e1, hp2⟩
theorem rA_s {μ ν : zMu} {nc : Nat} (h : ∀ c, c < nc → ∀ p, p < 24 → ν (37 + 7 * c) p = μ (37 + 7 * c) p ∨ ν (37 + 7 * c) p = -1) (hA : rA μ nc) : rA ν nc := by
  intro p hp
  obtain ⟨f, hf⟩ := hA p hp
  refine ⟨f, fun c hc j hj e => ?_⟩
  rcases h c hc p hp with h9 | h9
  · exact hf c hc j hj (h9.symm.trans e)
  · exact absurd (h9.symm.trans e) (znm1 (by omega))
