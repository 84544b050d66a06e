/-! bounds, counts, folds (out of whole's own parts) -/
theorem znm1 {a : Nat} (h : a < 2147483648) : ¬ (-1 : Int32) = nI a := fun q => nI_pos (n := a) h (by rw [← q]; decide)
/-- a number is no greater than n, either way -/
def rb (n : Nat) (x : Int32) : Prop := -(n : Int) ≤ x.toInt ∧ x.toInt ≤ (n : Int)
theorem zit_congr {α : Type} {f g : Nat → α → α} {a : Nat} : ∀ (n : Nat) (_ : ∀ i, i < n → ∀ s, f (a + i) s = g (a + i) s) (s : α), zit f a n s = zit g a n s
  | 0, _, _ => rfl
  | n + 1, h, s => by rw [zit_s, zit_s, zit_congr n (fun i hi => h i (by omega)) s, h n (by omega)]
theorem zite {x y u v : Int32} {d1 : Decidable (x = 0)} {d2 : Decidable (y = 0)} (h : x = y) : @ite Int32 (x = 0) d1 u v = @ite Int32 (y = 0) d2 u v := by
  subst h
  by_cases q : x = 0
  · rw [if_pos q, if_pos q]
  · rw [if_neg q, if_neg q]
theorem zifc {p q : Prop} {d1 : Decidable p} {d2 : Decidable q} {u v u' v' : Int32} (h : p ↔ q) (e : u = u') (e' : v = v') : @ite Int32 p d1 u v = @ite Int32 q d2 u' v' := by
  by_cases hp : p
  · rw [if_pos hp, if_pos (h.mp hp), e]
  · rw [if_neg hp, if_neg (fun s => hp (h.mpr s)), e']
/-! bounds -/
theorem rb_a {n : Nat} {x : Int32} : rb n x ↔ x.toInt.natAbs ≤ n := by unfold rb; omega
theorem bmod32 {z : Int} (h1 : -2147483648 ≤ z) (h2 : z < 2147483648) : z.bmod (2 ^ 32) = z := by
  rw [Int.bmod_eq_of_le (by omega) (by omega)]
theorem rb_m {a b : Nat} {x : Int32} (h : rb a x) (hb : a ≤ b) : rb b x := by
  unfold rb at h ⊢
  omega
theorem rb_add {a b n : Nat} {x y : Int32} (hx : rb a x) (hy : rb b y) (h : a + b ≤ n) (hn : n < 2147483648) : rb n (x + y) := by
  unfold rb at hx hy ⊢
  rw [Int32.toInt_add, bmod32 (by omega) (by omega)]
  omega
theorem rb_sub {a b n : Nat} {x y : Int32} (hx : rb a x) (hy : rb b y) (h : a + b ≤ n) (hn : n < 2147483648) : rb n (x - y) := by
  unfold rb at hx hy ⊢
  rw [Int32.toInt_sub, bmod32 (by omega) (by omega)]
  omega
theorem rb_neg {a : Nat} {x : Int32} (hx : rb a x) (ha : a < 2147483648) : rb a (-x) := by
  unfold rb at hx ⊢
  rw [Int32.toInt_neg, bmod32 (by omega) (by omega)]
  omega
theorem rb_mul {a b n : Nat} {x y : Int32} (hx : rb a x) (hy : rb b y) (h : a * b ≤ n) (hn : n < 2147483648) : rb n (x * y) := by
  rw [rb_a] at hx hy ⊢
  have e : (x.toInt * y.toInt).natAbs ≤ n := by
    rw [Int.natAbs_mul]
    exact Nat.le_trans (Nat.mul_le_mul hx hy) h
  rw [Int32.toInt_mul, bmod32 (by omega) (by omega)]
  exact e
theorem rb_div {a d n : Nat} {x : Int32} (hx : rb a x) (hd2 : d < 2147483648) (h : a / d ≤ n) : rb n (x / nI d) := by
  rw [rb_a] at hx ⊢
  have e : nI d ≠ -1 := fun q => znm1 hd2 q.symm
  rw [Int32.toInt_div_of_ne_right _ _ e, Int.natAbs_tdiv, nI_toInt (by omega), Int.natAbs_natCast]
  exact Nat.le_trans (Nat.div_le_div_right hx) h
theorem rb_zin {v : Int32} {e : Nat} (he : e < 2147483648) (h : zin v (nI e)) : rb e v := by
  have h1 := Int32.le_iff_toInt_le.mp (Int32.not_lt.mp h.1)
  have h2 := Int32.le_iff_toInt_le.mp (Int32.not_lt.mp h.2)
  rw [Int32.toInt_neg, nI_toInt he, bmod32 (by omega) (by omega)] at h1
  rw [nI_toInt he] at h2
  exact ⟨h1, h2⟩
/-! counting, ranks -/
noncomputable def zcnt (P : Nat → Prop) : Nat → Nat
  | 0 => 0
  | n + 1 => zcnt P n + @ite Nat (P n) (Classical.propDecidable _) 1 0
theorem zcnt_p {P : Nat → Prop} {n : Nat} (h : P n) : zcnt P (n + 1) = zcnt P n + 1 := by rw [zcnt, if_pos h]
theorem zcnt_q {P : Nat → Prop} {n : Nat} (h : ¬ P n) : zcnt P (n + 1) = zcnt P n := by rw [zcnt, if_neg h, Nat.add_zero]
theorem zcnt_n (P : Nat → Prop) : ∀ n, zcnt P n ≤ n
  | 0 => Nat.le_refl 0
  | n + 1 => by
    have h := zcnt_n P n
    by_cases p : P n
    · rw [zcnt_p p]; omega
    · rw [zcnt_q p]; omega
theorem zcnt_le {P Q : Nat → Prop} : ∀ n, (∀ i, i < n → P i → Q i) → zcnt P n ≤ zcnt Q n
  | 0, _ => Nat.le_refl 0
  | n + 1, h => by
    have h9 := zcnt_le n (fun i hi => h i (by omega))
    by_cases p : P n
    · rw [zcnt_p p, zcnt_p (h n (by omega) p)]; omega
    · rw [zcnt_q p]
      by_cases q : Q n
      · rw [zcnt_p q]; omega
      · rw [zcnt_q q]; omega
theorem zcnt_lt {P Q : Nat → Prop} {k : Nat} : ∀ n, (∀ i, i < n → P i → Q i) → k < n → ¬ P k → Q k → zcnt P n < zcnt Q n
  | 0, _, h, _, _ => absurd h (Nat.not_lt_zero k)
  | n + 1, h, hk, hp, hq => by
    by_cases e : k = n
    · subst e
      have h9 := zcnt_le k (fun i hi => h i (by omega))
      rw [zcnt_q hp, zcnt_p hq]
      omega
    · have h9 := zcnt_lt n (fun i hi => h i (by omega)) (by omega) hp hq
      by_cases p : P n
      · rw [zcnt_p p, zcnt_p (h n (by omega) p)]; omega
      · rw [zcnt_q p]
        by_cases q : Q n
        · rw [zcnt_p q]; omega
        · rw [zcnt_q q]; omega
theorem rank_b (h : Nat → Nat) (n : Nat) : ∃ g : Nat → Nat, (∀ c, c < n → g c < n) ∧ ∀ i j, i < n → h i < h j → g i < g j :=
  ⟨fun c => zcnt (fun i => h i < h c) n, fun c hc => Nat.lt_of_lt_of_le (zcnt_lt (Q := fun _ => True) n (fun _ _ _ => trivial) hc (Nat.lt_irrefl _) trivial) (zcnt_n _ n), fun i j hi hij => zcnt_lt n (fun k _ hk => Nat.lt_trans hk hij) hi (Nat.lt_irrefl _) hij⟩
/-! folds that write a place a turn -/
theorem zit_pt {f : Nat → zMu → zMu} {a N q : Nat} {S : Nat → Prop} (h1 : ∀ i ν k j, ¬ (S k ∧ j = q + i) → f i ν k j = ν k j)
    (h2 : ∀ i ν ν', a ≤ i → i < a + N → (∀ k j, (S k → j = q + i ∨ ¬ (q + a ≤ j ∧ j < q + a + N)) → ν k j = ν' k j) → ∀ k, S k → f i ν k (q + i) = f i ν' k (q + i)) (μ : zMu) :
    ∀ n, n ≤ N → (∀ k i, S k → a ≤ i → i < a + n → zit f a n μ k (q + i) = f i μ k (q + i)) ∧ (∀ k j, ¬ (S k ∧ q + a ≤ j ∧ j < q + a + n) → zit f a n μ k j = μ k j)
  | 0, _ => ⟨fun k i _ h3 h4 => absurd h4 (by omega), fun k j _ => rfl⟩
  | n + 1, hn => by
    obtain ⟨i1, i2⟩ := zit_pt h1 h2 μ n (by omega)
    refine ⟨fun k i hk h3 h4 => ?_, fun k j hj => ?_⟩
    · rw [zit_s]
      by_cases e : i = a + n
      · subst e
        refine h2 (a + n) _ _ (by omega) (by omega) (fun k2 j2 hj2 => i2 k2 j2 (fun s => ?_)) k hk
        rcases hj2 s.1 with e2 | e2
        · have := s.2.2; omega
        · have := s.2; omega
      · rw [h1 (a + n) _ k (q + i) (fun s => e (by have := s.2; omega))]
        exact i1 k i hk h3 (by omega)
    · rw [zit_s, h1 (a + n) _ k j (fun s => hj ⟨s.1, by have := s.2; omega, by have := s.2; omega⟩)]
      exact i2 k j (fun s => hj ⟨s.1, s.2.1, by have := s.2.2; omega⟩)
theorem zit_p0 {f : Nat → zMu → zMu} {a N : Nat} {S : Nat → Prop} (h1 : ∀ i ν k j, ¬ (S k ∧ j = i) → f i ν k j = ν k j)
    (h2 : ∀ i ν ν', a ≤ i → i < a + N → (∀ k j, (S k → j = i ∨ ¬ (a ≤ j ∧ j < a + N)) → ν k j = ν' k j) → ∀ k, S k → f i ν k i = f i ν' k i) (μ : zMu) :
    ∀ n, n ≤ N → (∀ k i, S k → a ≤ i → i < a + n → zit f a n μ k i = f i μ k i) ∧ (∀ k j, ¬ (S k ∧ a ≤ j ∧ j < a + n) → zit f a n μ k j = μ k j)
  | 0, _ => ⟨fun k i _ h3 h4 => absurd h4 (by omega), fun k j _ => rfl⟩
  | n + 1, hn => by
    obtain ⟨i1, i2⟩ := zit_p0 h1 h2 μ n (by omega)
    refine ⟨fun k i hk h3 h4 => ?_, fun k j hj => ?_⟩
    · rw [zit_s]
      by_cases e : i = a + n
      · subst e
        refine h2 (a + n) _ _ (by omega) (by omega) (fun k2 j2 hj2 => i2 k2 j2 (fun s => ?_)) k hk
        rcases hj2 s.1 with e2 | e2
        · have := s.2.2; omega
        · have := s.2; omega
      · rw [h1 (a + n) _ k i (fun s => e s.2)]
        exact i1 k i hk h3 (by omega)
    · rw [zit_s, h1 (a + n) _ k j (fun s => hj ⟨s.1, by have := s.2; omega, by have := s.2; omega⟩)]
      exact i2 k j (fun s => hj ⟨s.1, s.2.1, by have := s.2.2; omega⟩)
section ZPUT
variable {ν : zMu} {c p k j : Nat} {x y s : Int32}
theorem zput_x : zput ν c p x y s (34 + 7 * c) p = x := by unfold zput; rw [zu_o (by omega), zu_o (by omega), zu_s]
theorem zput_y : zput ν c p x y s (35 + 7 * c) p = y := by unfold zput; rw [zu_o (by omega), zu_s]
theorem zput_z : zput ν c p x y s (37 + 7 * c) p = s := by unfold zput; rw [zu_s]
theorem zput_n (h : ¬ ((k = 34 + 7 * c ∨ k = 35 + 7 * c ∨ k = 37 + 7 * c) ∧ j = p)) : zput ν c p x y s k j = ν k j := by
  unfold zput
  by_cases e : j = p
  · have h9 : ¬ (k = 34 + 7 * c ∨ k = 35 + 7 * c ∨ k = 37 + 7 * c) := fun q => h ⟨q, e⟩
    rw [zu_o (by omega), zu_o (by omega), zu_o (by omega)]
  · rw [zu_o2 e, zu_o2 e, zu_o2 e]
end ZPUT
