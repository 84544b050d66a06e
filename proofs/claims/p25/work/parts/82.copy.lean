/-! copy: what the law writes, and what joins class and law is kept -/
def lcp1 (c d man : Nat) (way : Int32) (i : Nat) (ν : zMu) : zMu := zu ν 0 (10 * d + i) (zdraw (ν 0 (10 * c + i)) way (ν 7 man))
def lcp2 (c d man : Nat) (way : Int32) (i : Nat) (ν : zMu) : zMu := zu ν 1 (10 * d + i) (zdraw (ν 1 (10 * c + i)) way (-(ν 7 man)))
def lcp3 (d man : Nat) (nm : Nat → Nat) (i : Nat) (ν : zMu) : zMu := zu ν 2 (10 * d + i) (ν 8 (16 * man + nm i))
def lcp4 (c d i : Nat) (ν : zMu) : zMu := zu ν 3 (10 * d + i) (if ν 3 (10 * c + i) = -2 then -2 else nI c)
def lcp (c d man : Nat) (way : Int32) (nm : Nat → Nat) (i : Nat) (ν : zMu) : zMu := lcp4 c d i (lcp3 d man nm i (lcp2 c d man way i (lcp1 c d man way i ν)))
theorem lcp_n {c d man i : Nat} {way : Int32} {nm : Nat → Nat} {ν : zMu} : zit (lcp c d man way nm) 0 (i + 1) ν = lcp c d man way nm i (zit (lcp c d man way nm) 0 i ν) := by rw [zit_s, Nat.zero_add]
theorem lcp_o {c d man i : Nat} {way : Int32} {nm : Nat → Nat} {ν : zMu} {k j : Nat} (h : ¬ (k < 4 ∧ j = 10 * d + i)) : lcp c d man way nm i ν k j = ν k j := by
  unfold lcp lcp4 lcp3 lcp2 lcp1
  by_cases e : j = 10 * d + i
  · rw [zu_o (by omega), zu_o (by omega), zu_o (by omega), zu_o (by omega)]
  · rw [zu_o2 e, zu_o2 e, zu_o2 e, zu_o2 e]
theorem lcp_v {c d man i : Nat} {way : Int32} {nm : Nat → Nat} {ν : zMu} (hcd : c ≠ d) (hi : i < 10) : lcp c d man way nm i ν 0 (10 * d + i) = zdraw (ν 0 (10 * c + i)) way (ν 7 man) ∧ lcp c d man way nm i ν 1 (10 * d + i) = zdraw (ν 1 (10 * c + i)) way (-(ν 7 man)) ∧ lcp c d man way nm i ν 2 (10 * d + i) = ν 8 (16 * man + nm i) ∧ lcp c d man way nm i ν 3 (10 * d + i) = if ν 3 (10 * c + i) = -2 then -2 else nI c := by
  have hj : 10 * c + i ≠ 10 * d + i := by omega
  refine ⟨?_, ?_, ?_, ?_⟩
  · unfold lcp lcp4 lcp3 lcp2
    rw [zu_o (by decide), zu_o (by decide), zu_o (by decide)]
    unfold lcp1
    rw [zu_s]
  · unfold lcp lcp4 lcp3
    rw [zu_o (by decide), zu_o (by decide)]
    unfold lcp2
    rw [zu_s]
    unfold lcp1
    rw [zu_o (by decide), zu_o (by decide)]
  · unfold lcp lcp4
    rw [zu_o (by decide)]
    unfold lcp3
    rw [zu_s]
    unfold lcp2 lcp1
    rw [zu_o (by decide), zu_o (by decide)]
  · unfold lcp lcp4
    rw [zu_s]
    unfold lcp3 lcp2 lcp1
    rw [zu_o (by decide), zu_o (by decide), zu_o (by decide)]
theorem lcp_f {c d man : Nat} {way : Int32} {nm : Nat → Nat} (hcd : c ≠ d) (ν : zMu) : (∀ i, i < 10 → zit (lcp c d man way nm) 0 10 ν 0 (10 * d + i) = zdraw (ν 0 (10 * c + i)) way (ν 7 man) ∧ zit (lcp c d man way nm) 0 10 ν 1 (10 * d + i) = zdraw (ν 1 (10 * c + i)) way (-(ν 7 man)) ∧ zit (lcp c d man way nm) 0 10 ν 2 (10 * d + i) = ν 8 (16 * man + nm i) ∧ zit (lcp c d man way nm) 0 10 ν 3 (10 * d + i) = if ν 3 (10 * c + i) = -2 then -2 else nI c) ∧ ∀ k j, ¬ (k < 4 ∧ 10 * d ≤ j ∧ j < 10 * d + 10) → zit (lcp c d man way nm) 0 10 ν k j = ν k j := by
  have h := zit_pt (f := lcp c d man way nm) (a := 0) (N := 10) (q := 10 * d) (S := fun k => k < 4) (fun i ν k j hh => lcp_o hh) (fun i ν ν' h1 h2 hh k hk => by
    have e : ∀ k, k < 4 → ν k (10 * c + i) = ν' k (10 * c + i) := fun k _ => hh _ _ (fun _ => Or.inr (by omega))
    have e7 : ν 7 man = ν' 7 man := hh _ _ (fun q => absurd q (by decide))
    have e8 : ν 8 (16 * man + nm i) = ν' 8 (16 * man + nm i) := hh _ _ (fun q => absurd q (by decide))
    obtain ⟨a0, a1, a2, a3⟩ := lcp_v (man := man) (way := way) (nm := nm) (ν := ν) hcd (show i < 10 by omega)
    obtain ⟨b0, b1, b2, b3⟩ := lcp_v (man := man) (way := way) (nm := nm) (ν := ν') hcd (show i < 10 by omega)
    match k, hk with
    | 0, _ => rw [a0, b0, e 0 (by omega), e7]
    | 1, _ => rw [a1, b1, e 1 (by omega), e7]
    | 2, _ => rw [a2, b2, e8]
    | 3, _ => rw [a3, b3, e 3 (by omega)]) ν 10 (Nat.le_refl 10)
  refine ⟨fun i hi => ?_, fun k j hk => h.2 k j (fun q => hk (by omega))⟩
  obtain ⟨a0, a1, a2, a3⟩ := lcp_v (man := man) (way := way) (nm := nm) (ν := ν) hcd hi
  rw [h.1 0 i (by decide) (Nat.zero_le i) (by omega), h.1 1 i (by decide) (Nat.zero_le i) (by omega), h.1 2 i (by decide) (Nat.zero_le i) (by omega), h.1 3 i (by decide) (Nat.zero_le i) (by omega)]
  exact ⟨a0, a1, a2, a3⟩
def lbi (c d k : Nat) (ν : zMu) : zMu := if sbit (ν 5 k) c then zu ν 5 k (ν 5 k ||| (nI 1 <<< (nI d &&& 31))) else ν
theorem lbi_n {c d k : Nat} {ν : zMu} : zit (lbi c d) 0 (k + 1) ν = lbi c d k (zit (lbi c d) 0 k ν) := by rw [zit_s, Nat.zero_add]
theorem lbi_o {c d i : Nat} {ν : zMu} {k j : Nat} (h : ¬ (k = 5 ∧ j = i)) : lbi c d i ν k j = ν k j := by
  unfold lbi
  by_cases e : sbit (ν 5 i) c
  · rw [if_pos e]
    by_cases e2 : j = i
    · rw [zu_o (fun z => h ⟨z, e2⟩)]
    · rw [zu_o2 e2]
  · rw [if_neg e]
theorem lbi_v {c d i : Nat} {ν : zMu} : lbi c d i ν 5 i = if sbit (ν 5 i) c then ν 5 i ||| (nI 1 <<< (nI d &&& 31)) else ν 5 i := by
  unfold lbi
  by_cases e : sbit (ν 5 i) c
  · rw [if_pos e, if_pos e, zu_s]
  · rw [if_neg e, if_neg e]
theorem lbi_f {c d : Nat} (ν : zMu) (n : Nat) : (∀ i, i < n → zit (lbi c d) 0 n ν 5 i = if sbit (ν 5 i) c then ν 5 i ||| (nI 1 <<< (nI d &&& 31)) else ν 5 i) ∧ ∀ k j, ¬ (k = 5 ∧ j < n) → zit (lbi c d) 0 n ν k j = ν k j := by
  have h := zit_p0 (f := lbi c d) (a := 0) (N := n) (S := fun k => k = 5) (fun i ν k j hh => lbi_o hh) (fun i ν ν' h1 h2 hh k hk => by
    have e : ν 5 i = ν' 5 i := hh _ _ (fun _ => Or.inl rfl)
    cases hk
    rw [lbi_v, lbi_v, e]) ν n (Nat.le_refl n)
  refine ⟨fun i hi => ?_, fun k j hk => h.2 k j (fun q => hk (by omega))⟩
  rw [h.1 5 i rfl (Nat.zero_le i) (by omega), lbi_v]
/-- the names of a chart as numbers -/
theorem nm_ex {μ ν : zMu} {nc c : Nat} (hc : c < nc) (hK : iK μ ν nc) : ∃ nm : Nat → Nat, (∀ i, i < 24 → μ (36 + 7 * c) i = nI (nm i) ∧ 1 ≤ nm i ∧ nm i < 100) ∧ (∀ i, i < 10 → ν 2 (10 * c + i) = nI (nm i) ∧ 1 ≤ nm i ∧ nm i ≤ 12) ∧ ∀ i, 10 ≤ i → i < 24 → nm i = i + 1 := by
  obtain ⟨-, -, hP, hO⟩ := hK c hc
  have h1 : ∀ i, i < 10 → μ (36 + 7 * c) i = nI (μ (36 + 7 * c) i).toNatClampNeg ∧ 1 ≤ (μ (36 + 7 * c) i).toNatClampNeg ∧ (μ (36 + 7 * c) i).toNatClampNeg ≤ 12 := fun i hi => by
    obtain ⟨e, m, m1, m2, e2⟩ := (hP i hi).1
    rw [e, e2, nI_clamp (by omega)]
    exact ⟨rfl, m1, m2⟩
  have h2 : ∀ i, 10 ≤ i → i < 24 → (μ (36 + 7 * c) i).toNatClampNeg = i + 1 := fun i h3 h4 => by rw [(hO i h3 h4).1, nI_clamp (by omega)]
  refine ⟨fun i => (μ (36 + 7 * c) i).toNatClampNeg, fun i hi => ?_, fun i hi => ?_, h2⟩
  · show μ (36 + 7 * c) i = nI (μ (36 + 7 * c) i).toNatClampNeg ∧ 1 ≤ (μ (36 + 7 * c) i).toNatClampNeg ∧ (μ (36 + 7 * c) i).toNatClampNeg < 100
    by_cases e : i < 10
    · obtain ⟨a, b, d⟩ := h1 i e
      exact ⟨a, b, by omega⟩
    · have a := h2 i (by omega) hi
      refine ⟨?_, by omega, by omega⟩
      rw [a]
      exact (hO i (by omega) hi).1
  · rw [← (hP i hi).1.1]
    exact h1 i hi
theorem v_copy {μ ν : zMu} {nc nr ni c man w : Nat} {way : Int32} {rf rt nm : Nat → Nat} (hI : iv μ ν nc nr ni rf rt) (hc : c < nc) (h5 : nc < 5) (hm : man < 4) (hn1 : ∀ i, i < 10 → ν 2 (10 * c + i) = nI (nm i) ∧ 1 ≤ nm i ∧ nm i ≤ 12) (hn2 : ∀ i, 10 ≤ i → i < 24 → nm i = i + 1) (hw1 : 1000 ≤ w) (hw2 : w ≤ 1000 + 2 * nc) : iv (ccopy c nc man nm way (nI w) μ) (zu (zit (lbi c nc) 0 ni (zit (lcp c nc man way nm) 0 10 ν)) 6 nc (nI w)) (nc + 1) nr ni rf rt := by
  obtain ⟨⟨⟨hnc, hn5⟩, -, ⟨hni, hn4⟩⟩, -, -, hY, hB, hK, hA⟩ := id hI
  have hcd : c ≠ nc := by omega
  obtain ⟨C1, C2, C3, C4, C5, C6⟩ := ccopy_f (c := c) (d := nc) (k := man) (nm := nm) (way := way) (y := nI w) hcd hm μ
  obtain ⟨L1, L2⟩ := lcp_f (c := c) (d := nc) (man := man) (way := way) (nm := nm) hcd ν
  obtain ⟨B1, B2⟩ := lbi_f (c := c) (d := nc) (zit (lcp c nc man way nm) 0 10 ν) ni
  obtain ⟨M, hM⟩ : ∃ M, M = ccopy c nc man nm way (nI w) μ := ⟨_, rfl⟩
  obtain ⟨V, hV⟩ : ∃ V, V = zu (zit (lbi c nc) 0 ni (zit (lcp c nc man way nm) 0 10 ν)) 6 nc (nI w) := ⟨_, rfl⟩
  rw [← hM] at C1 C2 C3 C4 C5 C6 ⊢
  rw [← hV]
  have V4 : ∀ b j, b < 4 → V b j = zit (lcp c nc man way nm) 0 10 ν b j := fun b j hb => by rw [hV, zu_o (by omega), B2 b j (by omega)]
  have Vo : ∀ b j, 4 ≤ b → b ≠ 5 → b ≠ 6 → V b j = ν b j := fun b j h1 h2 h3 => by rw [hV, zu_o h3, B2 b j (by omega), L2 b j (by omega)]
  have V6 : ∀ j, V 6 j = if j = nc then nI w else ν 6 j := fun j => by
    rw [hV]
    by_cases e : j = nc
    · rw [e, zu_s, if_pos rfl]
    · rw [zu_o2 e, if_neg e, B2 6 j (by omega), L2 6 j (by omega)]
  have V5 : ∀ k, V 5 k = if k < ni ∧ sbit (ν 5 k) c then ν 5 k ||| (nI 1 <<< (nI nc &&& 31)) else ν 5 k := fun k => by
    have e5 : zit (lcp c nc man way nm) 0 10 ν 5 k = ν 5 k := L2 5 k (by omega)
    rw [hV, zu_o (by decide)]
    by_cases e : k < ni
    · rw [B1 k e, e5]
      by_cases q : sbit (ν 5 k) c
      · rw [if_pos q, if_pos ⟨e, q⟩]
      · rw [if_neg q, if_neg (fun z => q z.2)]
    · rw [if_neg (fun z => e z.1), B2 5 k (by omega), e5]
  have Vf : ∀ b, 4 ≤ b → b ≠ 5 → b ≠ 6 → V b = ν b := fun b h1 h2 h3 => funext fun j => Vo b j h1 h2 h3
  have Mf : ∀ q, q ≠ 1 → (q < 33 + 7 * nc ∨ 39 + 7 * nc < q) → M q = μ q := fun q h1 h2 => funext fun j => C6 q j (fun z => h1 z.1) h2
  refine iv_mk hI (fun k h1 h2 => Mf k h1 (by omega)) (Vf 4 (by omega) (by omega) (by omega)) (Vf 9 (by omega) (by omega) (by omega)) C5 (by rw [Mf 21 (by omega) (by omega)]; exact hni) (by omega) hn4 (jY (fun k h1 h2 => Mf k (by omega) (by omega)) (Vf 7 (by omega) (by omega) (by omega)) (Vf 8 (by omega) (by omega) (by omega)) hY) ⟨fun k hk => ?_, fun d hd i hi => ?_⟩ (fun d hd => ?_) (fun p hp => ?_)
  · obtain ⟨v, v1, v2, v3⟩ := hB.1 k hk
    rw [V5]
    by_cases q : k < ni ∧ sbit (ν 5 k) c
    · rw [if_pos q]
      obtain ⟨b1, b2, b3⟩ := bit_on v v1 nc (by omega)
      rw [v2]
      refine ⟨_, b2, b1, fun d hd => ?_⟩
      rw [b3 d hd]
      by_cases e : d = nc
      · subst e
        rw [if_pos rfl, C4 k (by omega), ← v3 c (by omega)]
        exact q.2.symm
      · rw [if_neg e, Mf _ (by omega) (by omega), ← v2]
        exact v3 d hd
    · rw [if_neg q]
      refine ⟨v, v1, v2, fun d hd => ?_⟩
      by_cases e : d = nc
      · subst e
        rw [v3 d hd, C4 k (by omega), (hB.2 d (by omega) k (by omega)).2 (Or.inl (Nat.le_refl _))]
        by_cases e2 : k < ni
        · have h9 : ¬ sbit (ν 5 k) c := fun z => q ⟨e2, z⟩
          exact (Classical.not_not.mp (fun z => h9 ((bit_iff hB (by omega) hk).mpr z))).symm
        · exact ((hB.2 c (by omega) k (by omega)).2 (Or.inr (by omega))).symm
      · rw [Mf _ (by omega) (by omega)]
        exact v3 d hd
  · by_cases e : d = nc
    · subst e
      rw [C4 i hi]
      exact ⟨(hB.2 c (by omega) i hi).1, fun q => (hB.2 c (by omega) i hi).2 (Or.inr (by omega))⟩
    · rw [Mf _ (by omega) (by omega)]
      exact ⟨(hB.2 d hd i hi).1, fun q => (hB.2 d hd i hi).2 (by omega)⟩
  · by_cases e : d = nc
    · subst e
      obtain ⟨-, k2, hP, hO⟩ := hK c hc
      refine ⟨⟨by rw [C2, V6, if_pos rfl], w, hw1, hw2, by rw [V6, if_pos rfl]⟩, by rw [C3 0 (by omega)]; exact k2, fun p hp => ?_, fun p h1 h2 => ?_⟩
      · obtain ⟨c1, c2, c3, c4⟩ := C1 p (by omega)
        obtain ⟨l1, l2, l3, l4⟩ := L1 p hp
        obtain ⟨n1, n2, n3⟩ := hn1 p hp
        obtain ⟨y1, y2, -⟩ := hY man hm
        obtain ⟨y3, y4⟩ := y2 (nm p) n2 n3
        unfold iP
        rw [c1, c2, c3, c4, V4 0 _ (by omega), V4 1 _ (by omega), V4 2 _ (by omega), V4 3 _ (by omega), l1, l2, l3, l4]
        refine ⟨⟨y3, y4⟩, ?_⟩
        rcases (hP p hp).2 with ⟨q1, q2, q3, q4⟩ | ⟨q1, q2, q3, q4, q5, q6⟩
        · have hz : ¬ zkn μ c p := fun z => z q2
          rw [if_neg hz, if_neg hz, if_neg hz, if_pos q1]
          exact Or.inl ⟨rfl, rfl, rfl, rfl⟩
        · have hk2 := (k_gt (by omega) q1).2
          have hz : zkn μ c p := (iP_kn hn5 (by omega) (hP p hp)).mpr hk2
          rw [if_pos hz, if_pos hz, if_pos hz, if_neg hk2, q2, q3, y1.1]
          exact Or.inr ⟨Or.inr ⟨c, by omega, rfl⟩, rfl, rfl, rfl, rb_drawn q5 y1.2 (by omega) (by omega), rb_drawn q6 (rb_neg y1.2 (by omega)) (by omega) (by omega)⟩
      · obtain ⟨c1, c2, c3, c4⟩ := C1 p h2
        have hz : ¬ zkn μ c p := iO_kn (hO p h1 h2)
        unfold iO
        rw [c1, c2, c3, c4, if_neg hz, if_neg hz, if_neg hz, hn2 p h1 h2]
        exact ⟨(hY man hm).2.2 (p + 1) (by omega) (by omega), rfl, rfl, rfl⟩
    · obtain ⟨k1, k2, k3, k4⟩ := hK d (by omega)
      refine ⟨?_, ?_, fun p hp => ?_, fun p h1 h2 => ?_⟩
      · rw [Mf _ (by omega) (by omega), V6, if_neg e]; exact k1
      · rw [Mf _ (by omega) (by omega)]; exact k2
      · exact iP_v (by omega) (by rw [Mf _ (by omega) (by omega)]) (by rw [Mf _ (by omega) (by omega)]) (by rw [Mf _ (by omega) (by omega)]) (by rw [Mf _ (by omega) (by omega)]) (fun b hb => by rw [V4 b _ hb, L2 b _ (by omega)]) (k3 p hp)
      · have h9 := k4 p h1 h2
        unfold iO at h9 ⊢
        rw [Mf _ (by omega) (by omega), Mf _ (by omega) (by omega), Mf _ (by omega) (by omega), Mf _ (by omega) (by omega)]
        exact h9
  · obtain ⟨f, hf⟩ := hA p hp
    refine ⟨fun x => if x = nc then f c + 1 else f x, fun d hd j hj e => ?_⟩
    by_cases e1 : d = nc
    · subst e1
      rw [(C1 p hp).2.2.2] at e
      by_cases hz : zkn μ c p
      · rw [if_pos hz] at e
        have e2 : c = j := (nI_eq (by omega) (by omega)).mp e
        subst e2
        refine ⟨by omega, ?_⟩
        show (if c = d then f c + 1 else f c) < if d = d then f c + 1 else f d
        rw [if_neg (by omega), if_pos rfl]
        exact Nat.lt_succ_self _
      · rw [if_neg hz] at e
        exact absurd e (znm1 (by omega))
    · rw [Mf _ (by omega) (by omega)] at e
      obtain ⟨g1, g2⟩ := hf d (by omega) j hj e
      refine ⟨by omega, ?_⟩
      show (if j = nc then f c + 1 else f j) < if d = nc then f c + 1 else f d
      rw [if_neg (by omega), if_neg e1]
      exact g2
theorem lcp_k {c d man : Nat} {way : Int32} {nm : Nat → Nat} (ν : zMu) {k j : Nat} (h : ¬ (k < 4 ∧ 10 * d ≤ j ∧ j < 10 * d + 10)) : ∀ n, n ≤ 10 → zit (lcp c d man way nm) 0 n ν k j = ν k j
  | 0, _ => rfl
  | n + 1, hn => by rw [lcp_n, lcp_o (by omega), lcp_k ν h n (by omega)]
theorem lbi_sp {c d k : Nat} {ν : zMu} (h : sbit (zit (lbi c d) 0 k ν 5 k) c) : zu (zit (lbi c d) 0 k ν) 5 k (zit (lbi c d) 0 k ν 5 k ||| (nI 1 <<< (nI d &&& 31))) = zit (lbi c d) 0 (k + 1) ν := by
  rw [lbi_n]
  exact (if_pos h).symm
theorem lbi_sq {c d k : Nat} {ν : zMu} (h : ¬ sbit (zit (lbi c d) 0 k ν 5 k) c) : zit (lbi c d) 0 k ν = zit (lbi c d) 0 (k + 1) ν := by
  rw [lbi_n]
  exact (if_neg h).symm
