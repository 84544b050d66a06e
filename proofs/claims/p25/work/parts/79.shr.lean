/-! a basin shrinks -/
/-- b says whether P holds -/
def sB (b : Nat) (P : Prop) : Prop := (b = 1 ∧ P) ∨ (b = 0 ∧ ¬ P)
theorem sB_1 {b : Nat} {P : Prop} (h : sB b P) (hb : ¬ b = 0) : P := h.elim And.right (fun q => absurd q.1 hb)
theorem sB_0 {b : Nat} {P : Prop} (h : sB b P) (hb : b = 0) : ¬ P := h.elim (fun q => absurd hb (by omega)) And.right
theorem sB_le {b : Nat} {P : Prop} (h : sB b P) : b ≤ 1 := h.elim (fun q => by omega) (fun q => by omega)
theorem all_s {Q : Nat → Prop} {p : Nat} : (∀ i, i < p + 1 → Q i) ↔ (∀ i, i < p → Q i) ∧ Q p := ⟨fun h => ⟨fun i hi => h i (by omega), h p (by omega)⟩, fun h i hi => by
  by_cases e : i = p
  · rw [e]; exact h.2
  · exact h.1 i (by omega)⟩
theorem sB_c {b : Nat} {P P' : Prop} (h : P ↔ P') (hb : sB b P) : sB b P' := hb.elim (fun q => Or.inl ⟨q.1, h.mp q.2⟩) (fun q => Or.inr ⟨q.1, fun z => q.2 (h.mpr z)⟩)
theorem zab_in {v : Int32} (h : rb 1000000 v) : ¬ nI 10000 ≤ zab v ↔ zin v (nI 9999) := by
  have hv : (zab v).toInt = v.toInt.natAbs := by
    unfold rb at h
    unfold zab
    by_cases q : 0 ≤ v
    · rw [if_pos q]
      have := Int32.le_iff_toInt_le.mp q
      have h0 : (0 : Int32).toInt = 0 := rfl
      omega
    · rw [if_neg q, Int32.toInt_sub]
      have := Int32.lt_iff_toInt_lt.mp (Int32.not_le.mp q)
      have h0 : (0 : Int32).toInt = 0 := rfl
      rw [h0, bmod32 (by omega) (by omega)]
      omega
  refine ⟨fun q => zin_rb (by decide) ?_, fun q z => ?_⟩
  · have h1 := Int32.lt_iff_toInt_lt.mp (Int32.not_le.mp q)
    rw [hv, nI_toInt (by decide)] at h1
    unfold rb
    omega
  · have h1 := Int32.le_iff_toInt_le.mp z
    rw [hv, nI_toInt (by decide)] at h1
    have h2 := rb_zin (by decide) q
    unfold rb at h2
    omega
def lshr (c : Nat) (h : Int32) (i : Nat) (ν : zMu) : zMu := zu (zu ν 0 (10 * c + i) (ν 0 (10 * c + i) * h / nI 100)) 1 (10 * c + i) ((zu ν 0 (10 * c + i) (ν 0 (10 * c + i) * h / nI 100)) 1 (10 * c + i) * h / nI 100)
theorem lshr_n {c i : Nat} {h : Int32} {ν : zMu} : zit (lshr c h) 0 (i + 1) ν = lshr c h i (zit (lshr c h) 0 i ν) := by rw [zit_s, Nat.zero_add]
theorem shr_m {c : Nat} {h : Int32} {μ : zMu} : (∀ k i, (k = 34 + 7 * c ∨ k = 35 + 7 * c) → i < 8 → zit (cshr c h) 0 8 μ k i = cshr c h i μ k i) ∧ ∀ k j, ¬ ((k = 34 + 7 * c ∨ k = 35 + 7 * c) ∧ j < 8) → zit (cshr c h) 0 8 μ k j = μ k j := by
  have hz := zit_p0 (f := cshr c h) (a := 0) (N := 8) (S := fun k => k = 34 + 7 * c ∨ k = 35 + 7 * c) (fun i ν k j hk => by
    unfold cshr
    by_cases e : zkn ν c i
    · rw [if_pos e]
      by_cases e2 : j = i
      · rw [zu_o (fun z => hk ⟨Or.inr z, e2⟩), zu_o (fun z => hk ⟨Or.inl z, e2⟩)]
      · rw [zu_o2 e2, zu_o2 e2]
    · rw [if_neg e]) (fun i ν ν' h1 h2 hh k hk => by
    have e1 : ν (34 + 7 * c) i = ν' (34 + 7 * c) i := hh _ _ (fun _ => Or.inl rfl)
    have e2 : ν (35 + 7 * c) i = ν' (35 + 7 * c) i := hh _ _ (fun _ => Or.inl rfl)
    unfold cshr zkn
    rw [e1]
    by_cases e : ¬ ν' (34 + 7 * c) i = 100000
    · rw [if_pos e, if_pos e]
      rcases hk with rfl | rfl
      · rw [zu_o (by omega), zu_s, zu_o (by omega), zu_s]
      · rw [zu_s, zu_s, zu_o (by omega), zu_o (by omega), e2]
    · rw [if_neg e, if_neg e]
      rcases hk with rfl | rfl
      · exact e1
      · exact e2) μ 8 (Nat.le_refl 8)
  exact ⟨fun k i hk hi => hz.1 k i hk (Nat.zero_le i) (by omega), fun k j hk => hz.2 k j (fun q => hk ⟨q.1, by omega⟩)⟩
theorem shr_n {c : Nat} {h : Int32} {ν : zMu} : ∀ k j, ¬ ((k = 0 ∨ k = 1) ∧ 10 * c ≤ j ∧ j < 10 * c + 8) → zit (lshr c h) 0 8 ν k j = ν k j := by
  have hz : ∀ n, ∀ k j, ¬ ((k = 0 ∨ k = 1) ∧ 10 * c ≤ j ∧ j < 10 * c + n) → zit (lshr c h) 0 n ν k j = ν k j := by
    intro n
    induction n with
    | zero => intro k j _; rfl
    | succ n ih =>
      intro k j hk
      rw [lshr_n, lshr]
      by_cases e : j = 10 * c + n
      · rw [zu_o (fun z => hk ⟨Or.inr z, by omega⟩), zu_o (fun z => hk ⟨Or.inl z, by omega⟩)]
        exact ih k j (fun q => hk ⟨q.1, by omega⟩)
      · rw [zu_o2 e, zu_o2 e]
        exact ih k j (fun q => hk ⟨q.1, by omega⟩)
  exact hz 8
theorem shr_v {c : Nat} {h : Int32} {ν : zMu} {i : Nat} : ∀ n, i < n → zit (lshr c h) 0 n ν 0 (10 * c + i) = ν 0 (10 * c + i) * h / nI 100 ∧ zit (lshr c h) 0 n ν 1 (10 * c + i) = ν 1 (10 * c + i) * h / nI 100
  | 0, hn => absurd hn (Nat.not_lt_zero i)
  | n + 1, hn => by
    have ho : ∀ m, m ≤ i → zit (lshr c h) 0 m ν 0 (10 * c + i) = ν 0 (10 * c + i) ∧ zit (lshr c h) 0 m ν 1 (10 * c + i) = ν 1 (10 * c + i) := by
      intro m
      induction m with
      | zero => intro _; exact ⟨rfl, rfl⟩
      | succ m ih =>
        intro hm
        rw [lshr_n, lshr, zu_o2 (show 10 * c + i ≠ 10 * c + m by omega), zu_o2 (show 10 * c + i ≠ 10 * c + m by omega), zu_o2 (show 10 * c + i ≠ 10 * c + m by omega), zu_o2 (show 10 * c + i ≠ 10 * c + m by omega)]
        exact ih (by omega)
    rw [lshr_n, lshr]
    by_cases e : i = n
    · subst e
      rw [zu_o (show 0 ≠ 1 by decide), zu_s, zu_s, zu_o (show 1 ≠ 0 by decide), (ho i (Nat.le_refl i)).1, (ho i (Nat.le_refl i)).2]
      exact ⟨rfl, rfl⟩
    · rw [zu_o2 (show 10 * c + i ≠ 10 * c + n by omega), zu_o2 (show 10 * c + i ≠ 10 * c + n by omega), zu_o2 (show 10 * c + i ≠ 10 * c + n by omega), zu_o2 (show 10 * c + i ≠ 10 * c + n by omega)]
      exact shr_v n (by omega)
theorem shr_38 {μ ν : zMu} {nc c : Nat} {h : Int32} (hc : c < nc) (hK : iK μ ν nc) : zit (cshr c h) (0 * 8) 8 μ (38 + 7 * c) 0 = nI 100 := (shr_m.2 _ _ (fun q => by omega)).trans (hK c hc).2.1
theorem v_shrink {μ ν : zMu} {nc nr ni c h : Nat} {rf rt : Nat → Nat} (hI : iv μ ν nc nr ni rf rt) (hc : c < nc) (hQ : ∀ i, i < 8 → cshP μ c (nI h) i) : iv (zit (cshr c (nI h)) 0 8 μ) (zit (lshr c (nI h)) 0 8 ν) nc nr ni rf rt := by
  obtain ⟨⟨⟨hnc, hn5⟩, -, -⟩, -, -, -, -, hK, hA⟩ := id hI
  have hP := (hK c hc).2.2.1
  obtain ⟨m1, m2⟩ := shr_m (c := c) (h := nI h) (μ := μ)
  have n2 := shr_n (c := c) (h := nI h) (ν := ν)
  refine iv_row hc (fun k j hk => m2 k j (by omega)) (fun b j hj => n2 b j (by omega)) (fun i hi => ?_) (fun i h1 h2 => ?_) (jA hn5 (fun d hd => funext fun j => m2 _ j (by omega)) hA) hI
  · by_cases e : i < 8
    · have h9 := hP i hi
      unfold iP at h9 ⊢
      rw [m2 (36 + 7 * c) i (by omega), m2 (37 + 7 * c) i (by omega), n2 2 _ (by omega), n2 3 _ (by omega)]
      refine ⟨h9.1, ?_⟩
      rw [m1 _ i (Or.inl rfl) e, m1 _ i (Or.inr rfl) e, (shr_v 8 e).1, (shr_v 8 e).2]
      rcases h9.2 with ⟨q1, q2, q3, q4⟩ | ⟨q1, q2, q3, q4, q5, q6⟩
      · have hz : ¬ zkn μ c i := fun z => z q2
        unfold cshr
        rw [if_neg hz]
        exact Or.inl ⟨q1, q2, q3, q4⟩
      · have hz : zkn μ c i := (iP_kn hn5 (by omega) (hP i hi)).mpr (k_gt (by omega) q1).2
        obtain ⟨g1, g2⟩ := hQ i e hz
        have r1 := rb_zin (by decide) g1
        have r2 := rb_zin (by decide) g2
        unfold cshr
        rw [if_pos hz, zu_o (by omega), zu_s, zu_s, zu_o (by omega), ← q2, ← q3]
        exact Or.inr ⟨q1, rfl, rfl, q4, rb_m r1 (by omega), rb_m r2 (by omega)⟩
    · exact iP_v (Nat.le_refl _) (m2 _ _ (by omega)) (m2 _ _ (by omega)) (m2 _ _ (by omega)) (m2 _ _ (by omega)) (fun b hb => n2 _ _ (by omega)) (hP i hi)
  · have h9 := (hK c hc).2.2.2 i h1 h2
    unfold iO at h9 ⊢
    rw [m2 _ _ (by omega), m2 _ _ (by omega), m2 _ _ (by omega), m2 _ _ (by omega)]
    exact h9
