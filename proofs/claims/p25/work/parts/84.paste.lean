/-! paste: chains, what the law writes, what joins class and law is kept -/
def hit (μ : zMu) (nc p a : Nat) : Nat → Int32 → Prop
  | 0, _ => False
  | n + 1, l => ¬ l = -1 ∧ (l = nI a ∨ hit μ nc p a n (zsrc μ nc p l))
abbrev hitE (μ : zMu) (nc p a : Nat) (l : Int32) : Prop := ∃ n, hit μ nc p a n l
section ZHIT
variable {μ ν : zMu} {nc p a : Nat}
theorem hitE_m : ¬ hitE μ nc p a (-1) := fun ⟨n, q⟩ => by
  cases n with
  | zero => exact q
  | succ n => exact q.1 rfl
theorem hitE_n {j : Nat} (hn : nc ≤ 5) (ha : a < nc) (hj : j < nc) : hitE μ nc p a (nI j) ↔ (j = a ∨ hitE μ nc p a (zsrc μ nc p (nI j))) := by
  constructor
  · rintro ⟨n, q⟩
    cases n with
    | zero => exact q.elim
    | succ n =>
      rcases q.2 with q | q
      · exact Or.inl ((nI_eq (by omega) (by omega)).mp q)
      · exact Or.inr ⟨n, q⟩
  · rintro (rfl | ⟨n, q⟩)
    · exact ⟨1, fun q => znm1 (by omega) q.symm, Or.inl rfl⟩
    · exact ⟨n + 1, fun q => znm1 (by omega) q.symm, Or.inr q⟩
theorem hit_z (hn : nc ≤ 5) (ha : a < nc) (hS : ∀ j, j < nc → zsrc μ nc p (nI j) = -1 ∨ ∃ i, i < nc ∧ zsrc μ nc p (nI j) = nI i) : ∀ m l, (l = -1 ∨ ∃ j, j < nc ∧ l = nI j) → ((l = nI a ∨ zld μ nc p (nI a) m l) ↔ hit μ nc p a (m + 1) l)
  | 0, l, _ => by
    constructor
    · rintro (rfl | h)
      · exact ⟨fun q => znm1 (by omega) q.symm, Or.inl rfl⟩
      · exact h.elim
    · rintro ⟨-, q | q⟩
      · exact Or.inl q
      · exact q.elim
  | m + 1, l, hl => by
    rcases hl with rfl | ⟨j, hj, rfl⟩
    · constructor
      · rintro (h | h)
        · exact absurd h (znm1 (by omega))
        · exact absurd rfl h.1
      · intro h
        exact absurd rfl h.1
    · have ih := hit_z hn ha hS m (zsrc μ nc p (nI j)) (hS j hj)
      constructor
      · rintro (h | h)
        · exact ⟨fun q => znm1 (by omega) q.symm, Or.inl h⟩
        · exact ⟨h.1, Or.inr (ih.mp h.2)⟩
      · rintro ⟨h1, h | h⟩
        · exact Or.inl h
        · exact Or.inr ⟨h1, ih.mpr h⟩
theorem hit_s {g : Nat → Nat} (hn : nc ≤ 5) (hS : ∀ j, j < nc → zsrc μ nc p (nI j) = -1 ∨ ∃ i, i < nc ∧ zsrc μ nc p (nI j) = nI i) (hg : ∀ c, c < nc → ∀ j, j < nc → zsrc μ nc p (nI c) = nI j → g j < g c) : ∀ n j, j < nc → hit μ nc p a n (nI j) → ∀ m, g j < m → hit μ nc p a m (nI j)
  | 0, _, _, h => h.elim
  | n + 1, j, hj, h => fun m hm => by
    obtain ⟨m, rfl⟩ : ∃ m', m = m' + 1 := ⟨m - 1, by omega⟩
    refine ⟨h.1, ?_⟩
    rcases h.2 with h | h
    · exact Or.inl h
    · rcases hS j hj with e | ⟨i, hi, e⟩
      · rw [e] at h
        exact absurd ⟨n, h⟩ hitE_m
      · rw [e] at h ⊢
        have := hg j hj i hi e
        exact Or.inr (hit_s hn hS hg n i hi h m (by omega))
theorem iK_src (hn : nc ≤ 5) (hp : p < 24) (hK : iK μ ν nc) : ∀ j, j < nc → zsrc μ nc p (nI j) = -1 ∨ ∃ i, i < nc ∧ zsrc μ nc p (nI j) = nI i := by
  intro j hj
  rw [zsrc_n hj (by omega)]
  obtain ⟨-, -, hP, hO⟩ := hK j hj
  by_cases h : p < 10
  · rcases (hP p h).2 with ⟨-, -, -, q⟩ | ⟨q1, -, -, q, -⟩
    · exact Or.inl q
    · rw [q]; exact q1
  · exact Or.inl (hO p (by omega) hp).2.2.2
theorem iA_g (hn : nc ≤ 5) (hp : p < 24) (hA : iA μ nc) : ∃ g : Nat → Nat, (∀ c, c < nc → g c < nc) ∧ ∀ c, c < nc → ∀ j, j < nc → zsrc μ nc p (nI c) = nI j → g j < g c := by
  obtain ⟨h, hh⟩ := hA p hp
  obtain ⟨g, g1, g2⟩ := rank_b h nc
  refine ⟨g, g1, fun c hc j hj e => g2 j c hj ?_⟩
  rw [zsrc_n hc (by omega)] at e
  exact (hh c hc j (by omega) e).2
theorem zld_E {b : Nat} (hn : nc ≤ 5) (hp : p < 24) (ha : a < nc) (hb : b < nc) (hab : a ≠ b) (hK : iK μ ν nc) (hA : iA μ nc) : zld μ nc p (nI a) 12 (nI b) ↔ hitE μ nc p a (nI b) := by
  have hS := iK_src hn hp hK
  obtain ⟨g, g1, g2⟩ := iA_g hn hp hA
  have h1 := hit_z (p := p) hn ha hS 12 (nI b) (Or.inr ⟨b, hb, rfl⟩)
  constructor
  · intro h
    exact ⟨13, h1.mp (Or.inr h)⟩
  · rintro ⟨n, h⟩
    rcases h1.mpr (hit_s hn hS g2 n b hb h 13 (by have := g1 b hb; omega)) with h | h
    · exact absurd ((nI_eq (by omega) (by omega)).mp h).symm hab
    · exact h
end ZHIT
theorem jA_p {μ μ' ν : zMu} {nc a b : Nat} {P : Nat → Prop} (hn : nc ≤ 5) (ha : a < nc) (hb : b < nc) (hK : iK μ ν nc) (hA : iA μ nc)
    (h1 : ∀ c, c < nc → ∀ p, p < 24 → ¬ (c = a ∧ P p) → μ' (37 + 7 * c) p = μ (37 + 7 * c) p) (h2 : ∀ p, p < 24 → P p → μ' (37 + 7 * a) p = -1 ∨ (μ' (37 + 7 * a) p = nI b ∧ ¬ hitE μ nc p a (nI b))) : iA μ' nc := by
  intro p hp
  obtain ⟨h, hh⟩ := hA p hp
  by_cases hPp : P p
  · refine ⟨fun c => @ite Nat (hitE μ nc p a (nI c)) (Classical.propDecidable _) (h c + h b + 1) (h c), fun c hc j hj e => ?_⟩
    dsimp only
    by_cases hca : c = a
    · subst hca
      rcases h2 p hp hPp with e9 | ⟨e9, hno⟩
      · exact absurd (e9.symm.trans e) (znm1 (by omega))
      · have ej : j = b := (nI_eq (by omega) (by omega)).mp (e.symm.trans e9)
        subst ej
        have hRa : hitE μ nc p c (nI c) := (hitE_n hn hc hc).mpr (Or.inl rfl)
        rw [if_pos hRa, if_neg hno]
        exact ⟨hb, by omega⟩
    · rw [h1 c hc p hp (fun q => hca q.1)] at e
      obtain ⟨hj2, hlt⟩ := hh c hc j hj e
      refine ⟨hj2, ?_⟩
      have e3 : zsrc μ nc p (nI c) = nI j := by rw [zsrc_n hc (by omega), e]
      have hR : hitE μ nc p a (nI c) ↔ hitE μ nc p a (nI j) := by
        rw [hitE_n hn ha hc, e3]
        exact ⟨fun q => q.elim (fun z => absurd z hca) id, Or.inr⟩
      by_cases hRj : hitE μ nc p a (nI j)
      · rw [if_pos hRj, if_pos (hR.mpr hRj)]
        omega
      · rw [if_neg hRj, if_neg (fun q => hRj (hR.mp q))]
        exact hlt
  · refine ⟨h, fun c hc j hj e => hh c hc j hj ?_⟩
    rw [h1 c hc p hp (fun q => hPp q.2)] at e
    exact e
def lpa1 (a b i : Nat) (ν : zMu) : zMu := zu ν 3 (10 * a + i) (if ν 3 (10 * b + i) = -2 then -2 else nI b)
def lpa2 (a b : Nat) (x : Int32) (i : Nat) (ν : zMu) : zMu := zu ν 0 (10 * a + i) (ν 0 (10 * b + i) + x)
def lpa3 (a b : Nat) (y : Int32) (i : Nat) (ν : zMu) : zMu := zu ν 1 (10 * a + i) (ν 1 (10 * b + i) + y)
def lpa4 (a b i : Nat) (ν : zMu) : zMu := zu ν 2 (10 * a + i) (ν 2 (10 * b + i))
def lpa (a b : Nat) (x y : Int32) (i : Nat) (ν : zMu) : zMu := lpa4 a b i (lpa3 a b y i (lpa2 a b x i (lpa1 a b i ν)))
theorem lpa_o {a b i : Nat} {x y : Int32} {ν : zMu} {k j : Nat} (h : ¬ (k < 4 ∧ j = 10 * a + i)) : lpa a b x y i ν k j = ν k j := by
  unfold lpa lpa4 lpa3 lpa2 lpa1
  by_cases e : j = 10 * a + i
  · rw [zu_o (by omega), zu_o (by omega), zu_o (by omega), zu_o (by omega)]
  · rw [zu_o2 e, zu_o2 e, zu_o2 e, zu_o2 e]
theorem lpa_v {a b i : Nat} {x y : Int32} {ν : zMu} : lpa a b x y i ν 0 (10 * a + i) = ν 0 (10 * b + i) + x ∧ lpa a b x y i ν 1 (10 * a + i) = ν 1 (10 * b + i) + y ∧ lpa a b x y i ν 2 (10 * a + i) = ν 2 (10 * b + i) ∧ lpa a b x y i ν 3 (10 * a + i) = if ν 3 (10 * b + i) = -2 then -2 else nI b := by
  refine ⟨?_, ?_, ?_, ?_⟩
  · unfold lpa lpa4 lpa3
    rw [zu_o (by decide), zu_o (by decide)]
    unfold lpa2
    rw [zu_s]
    unfold lpa1
    rw [zu_o (by decide)]
  · unfold lpa lpa4
    rw [zu_o (by decide)]
    unfold lpa3
    rw [zu_s]
    unfold lpa2 lpa1
    rw [zu_o (by decide), zu_o (by decide)]
  · unfold lpa lpa4
    rw [zu_s]
    unfold lpa3 lpa2 lpa1
    rw [zu_o (by decide), zu_o (by decide), zu_o (by decide)]
  · unfold lpa lpa4 lpa3 lpa2
    rw [zu_o (by decide), zu_o (by decide), zu_o (by decide)]
    unfold lpa1
    rw [zu_s]
theorem lpa_f {a b f n : Nat} {x y : Int32} (hab : a ≠ b) (hn : f + n ≤ 10) (ν : zMu) : (∀ i, f ≤ i → i < f + n → zit (lpa a b x y) f n ν 0 (10 * a + i) = ν 0 (10 * b + i) + x ∧ zit (lpa a b x y) f n ν 1 (10 * a + i) = ν 1 (10 * b + i) + y ∧ zit (lpa a b x y) f n ν 2 (10 * a + i) = ν 2 (10 * b + i) ∧ zit (lpa a b x y) f n ν 3 (10 * a + i) = if ν 3 (10 * b + i) = -2 then -2 else nI b) ∧ ∀ k j, ¬ (k < 4 ∧ 10 * a + f ≤ j ∧ j < 10 * a + f + n) → zit (lpa a b x y) f n ν k j = ν k j := by
  have h := zit_pt (f := lpa a b x y) (a := f) (N := n) (q := 10 * a) (S := fun k => k < 4) (fun i ν k j hh => lpa_o hh) (fun i ν ν' h1 h2 hh k hk => by
    have e : ∀ k, k < 4 → ν k (10 * b + i) = ν' k (10 * b + i) := fun k _ => hh _ _ (fun _ => Or.inr (by omega))
    obtain ⟨a0, a1, a2, a3⟩ := lpa_v (a := a) (b := b) (i := i) (x := x) (y := y) (ν := ν)
    obtain ⟨b0, b1, b2, b3⟩ := lpa_v (a := a) (b := b) (i := i) (x := x) (y := y) (ν := ν')
    match k, hk with
    | 0, _ => rw [a0, b0, e 0 (by omega)]
    | 1, _ => rw [a1, b1, e 1 (by omega)]
    | 2, _ => rw [a2, b2, e 2 (by omega)]
    | 3, _ => rw [a3, b3, e 3 (by omega)]) ν n (Nat.le_refl n)
  refine ⟨fun i h1 h2 => ?_, fun k j hk => h.2 k j (fun q => hk (by omega))⟩
  rw [h.1 0 i (by decide) h1 h2, h.1 1 i (by decide) h1 h2, h.1 2 i (by decide) h1 h2, h.1 3 i (by decide) h1 h2]
  exact lpa_v
/-- the count of what is known of a stretch then is the source's -/
theorem paste_cnt {μ : zMu} {c b f n : Nat} {x y : Int32} (hcb : c ≠ b) (hQ : ∀ i, i < n → cmvP μ b x y (f + i)) : zit (ckn (zit (cpa c b x y) f n μ) c) f n (nI 0) = zit (ckn μ b) f n (nI 0) := by
  refine zit_congr n (fun i hi s => ?_) (nI 0)
  have h := ((cpa_f (x := x) (y := y) (f := f) (n := n) hcb μ).1 (f + i) (by omega) (by omega)).2.1
  have e : zkn (zit (cpa c b x y) f n μ) c (f + i) ↔ zkn μ b (f + i) := by
    show ¬ zit (cpa c b x y) f n μ (34 + 7 * c) (f + i) = 100000 ↔ zkn μ b (f + i)
    rw [h]
    by_cases q : zkn μ b (f + i)
    · rw [if_pos q]
      exact ⟨fun _ => q, fun _ => rb_n0 (rb_zin (by decide) (hQ i hi q).1) (by omega)⟩
    · rw [if_neg q]
      exact ⟨fun z => absurd rfl z, fun z => absurd z q⟩
  unfold ckn
  by_cases q : zkn μ b (f + i)
  · rw [if_pos q, if_pos (e.mpr q)]
  · rw [if_neg q, if_neg (fun z => q (e.mp z))]
theorem v_paste {μ ν : zMu} {nc nr ni c b f n : Nat} {x y : Int32} {rf rt : Nat → Nat} (hI : iv μ ν nc nr ni rf rt) (hc : c < nc) (hb : b < nc) (hcb : c ≠ b) (hfn : f + n ≤ 10) (hQ : ∀ i, i < n → ¬ zld μ nc (f + i) (nI c) 12 (nI b) ∧ cmvP μ b x y (f + i)) : iv (zit (cpa c b x y) f n μ) (zit (lpa c b x y) f n ν) nc nr ni rf rt := by
  obtain ⟨⟨⟨hnc, hn5⟩, -, -⟩, -, -, -, -, hK, hA⟩ := id hI
  obtain ⟨C1, C2⟩ := cpa_f (x := x) (y := y) (f := f) (n := n) hcb μ
  obtain ⟨L1, L2⟩ := lpa_f (x := x) (y := y) hcb hfn ν
  have hP := (hK c hc).2.2.1
  have hPb := (hK b hb).2.2.1
  refine iv_row hc (fun k j hk => C2 k j (by omega)) (fun d j hj => L2 d j (by omega)) (fun p hp => ?_) (fun p h1 h2 => ?_) (jA_p (P := fun p => f ≤ p ∧ p < f + n) hn5 hc hb hK hA (fun d hd p hp hh => C2 _ p (fun q => hh ⟨by omega, q.2⟩)) (fun p hp hh => ?_)) hI
  · by_cases e : f ≤ p ∧ p < f + n
    · obtain ⟨c1, c2, c3, c4⟩ := C1 p e.1 e.2
      obtain ⟨l1, l2, l3, l4⟩ := L1 p e.1 e.2
      have h9 := hPb p hp
      unfold iP
      rw [c1, c2, c3, c4, l1, l2, l3, l4]
      refine ⟨h9.1, ?_⟩
      rcases h9.2 with ⟨q1, q2, q3, q4⟩ | ⟨q1, q2, q3, q4, q5, q6⟩
      · have hz : ¬ zkn μ b p := fun w => w q2
        rw [if_neg hz, if_neg hz, if_neg hz, if_pos q1]
        exact Or.inl ⟨rfl, rfl, rfl, rfl⟩
      · have hk2 := (k_gt (by omega) q1).2
        have hz : zkn μ b p := (iP_kn hn5 (by omega) h9).mpr hk2
        have hq := (hQ (p - f) (by omega)).2
        rw [show f + (p - f) = p by omega] at hq
        obtain ⟨g1, g2⟩ := hq hz
        have r1 := rb_zin (by decide) g1
        have r2 := rb_zin (by decide) g2
        rw [q2] at r1
        rw [q3] at r2
        rw [if_pos hz, if_pos hz, if_pos hz, if_neg hk2, q2, q3]
        exact Or.inr ⟨Or.inr ⟨b, hb, rfl⟩, rfl, rfl, rfl, rb_m r1 (by omega), rb_m r2 (by omega)⟩
    · exact iP_v (Nat.le_refl _) (C2 _ _ (fun q => e q.2)) (C2 _ _ (fun q => e q.2)) (C2 _ _ (fun q => e q.2)) (C2 _ _ (fun q => e q.2)) (fun d hd => L2 d _ (fun q => e (by omega))) (hP p hp)
  · have h9 := (hK c hc).2.2.2 p h1 h2
    unfold iO at h9 ⊢
    rw [C2 _ _ (by omega), C2 _ _ (by omega), C2 _ _ (by omega), C2 _ _ (by omega)]
    exact h9
  · obtain ⟨-, -, -, c4⟩ := C1 p hh.1 hh.2
    rw [c4]
    by_cases hz : zkn μ b p
    · rw [if_pos hz]
      have hq := (hQ (p - f) (by omega)).1
      rw [show f + (p - f) = p by omega] at hq
      exact Or.inr ⟨rfl, fun w => hq ((zld_E hn5 hp hc hb hcb hK hA).mpr w)⟩
    · rw [if_neg hz]
      exact Or.inl rfl
theorem mod_ne {c k nc : Nat} (hc : c < nc) (hk : k < nc - 1) : (c + 1 + k) % nc < nc ∧ ¬ (c + 1 + k) % nc = c := by
  refine ⟨Nat.mod_lt _ (by omega), ?_⟩
  by_cases h : c + 1 + k < nc
  · rw [Nat.mod_eq_of_lt h]; omega
  · rw [Nat.mod_eq_sub_mod (by omega), Nat.mod_eq_of_lt (by omega)]; omega
theorem lpa_k {a b f : Nat} {x y : Int32} (ν : zMu) {k j : Nat} (h : ¬ (k < 4 ∧ 10 * a ≤ j ∧ j < 10 * a + 10)) : ∀ n, f + n ≤ 10 → zit (lpa a b x y) f n ν k j = ν k j
  | 0, _ => rfl
  | n + 1, hn => by rw [zit_s, lpa_o (by omega), lpa_k ν h n (by omega)]
theorem cmv_u {μ : zMu} {a b f q : Nat} (h : ¬ (zkn μ a f ∧ zkn μ b f)) : cmv μ a b f q = nI 0 := if_neg h
theorem cmv_k {μ ν : zMu} {nc a b f : Nat} (h1 : zkn μ a f) (h2 : zkn μ b f) (ha : iP μ ν nc a f) (hb : iP μ ν nc b f) : cmv μ a b f 34 = ν 0 (10 * a + f) - ν 0 (10 * b + f) ∧ cmv μ a b f 35 = ν 1 (10 * a + f) - ν 1 (10 * b + f) := by
  rcases ha.2 with ⟨-, q, -⟩ | ⟨-, a1, a2, -⟩
  · exact absurd q h1
  · rcases hb.2 with ⟨-, q, -⟩ | ⟨-, b1, b2, -⟩
    · exact absurd q h2
    · unfold cmv
      rw [if_pos (And.intro h1 h2), if_pos (And.intro h1 h2), a1, a2, b1, b2]
      exact ⟨rfl, rfl⟩
theorem cmv_rb {μ ν : zMu} {nc a b f : Nat} (ha5 : a < 5) (hb5 : b < 5) (ha : iP μ ν nc a f) (hb : iP μ ν nc b f) : rb 100000 (cmv μ a b f 34) ∧ rb 100000 (cmv μ a b f 35) := by
  have r0 : rb 100000 (nI 0) := by unfold rb; decide
  by_cases h : zkn μ a f ∧ zkn μ b f
  · obtain ⟨e1, e2⟩ := cmv_k h.1 h.2 ha hb
    rw [e1, e2]
    rcases ha.2 with ⟨-, q, -⟩ | ⟨-, -, -, -, a1, a2⟩
    · exact absurd q h.1
    · rcases hb.2 with ⟨-, q, -⟩ | ⟨-, -, -, -, b1, b2⟩
      · exact absurd q h.2
      · exact ⟨rb_sub a1 b1 (by omega) (by omega), rb_sub a2 b2 (by omega) (by omega)⟩
  · rw [cmv_u h, cmv_u h]
    exact ⟨r0, r0⟩
