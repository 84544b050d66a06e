/-! chart: all rounds, the start, and what joins class and law is kept -/
theorem lgr_n {d j : Nat} {rf rt : Nat → Nat} {V : zMu} : zit (lgr d rf rt) 0 (j + 1) V = lgr d rf rt j (zit (lgr d rf rt) 0 j V) := by rw [zit_s, Nat.zero_add]
theorem clay_1 {rf rt : Nat → Nat} {d r i : Nat} {σ : zMu} : clay rf rt d r i (nI 1, σ) = (zfl1 (cgather rf rt d r σ 18) 24, zit (cset1 d) 0 24 (cgather rf rt d r σ)) := by
  unfold clay
  rw [if_neg (show ¬ (nI 1, σ).1 = 0 from (by decide : ¬ nI 1 = 0)), cset_eq]
theorem clay_s {rf rt : Nat → Nat} {d r : Nat} {σ : zMu} : ∀ n, zit (clay rf rt d r) 0 n (nI 0, σ) = (nI 0, σ)
  | 0 => rfl
  | n + 1 => by
    rw [zit_s, clay_s n]
    unfold clay
    rw [if_pos (by rfl)]
/-- the law's rounds, as far as they have gone -/
def CH (μ W : zMu) (nr : Nat) (rf rt : Nat → Nat) (d r : Nat) (σ0 : zMu) (i g : Nat) (V σ : zMu) : Prop := RPl d (500 + 1690 * i) V σ ∧ zit (clay rf rt d r) 0 24 (nI 1, σ0) = zit (clay rf rt d r) 0 (24 - i) (nI g, σ) ∧ (g = 1 → i + zcnt (fun p => V 3 (10 * d + p) = -2) 10 ≤ 9) ∧ i ≤ 10 ∧ (∀ p, p < 24 → σ (37 + 7 * d) p = -1) ∧ (∀ a q, ¬ ((a = 0 ∨ a = 1 ∨ a = 3) ∧ 10 * d ≤ q ∧ q < 10 * d + 10) → a < 11 → V a q = W a q) ∧ ∀ k, (k ≠ 16 ∧ k ≠ 17 ∧ k ≠ 18) → (k ≠ 34 + 7 * d ∧ k ≠ 35 + 7 * d ∧ k ≠ 37 + 7 * d) → σ k = σ0 k
theorem ch_step {μ W V V1 σ σ0 : zMu} {nr d r i g2 : Nat} {rf rt : Nat → Nat} (hr : r ≤ 60) (hi : i ≤ 9) (h : CH μ W nr rf rt d r σ0 i 1 V σ) (hV : ∀ a, a < 11 → V1 a = V a) (h0 : V1 11 = fun _ => 0) (hd5 : d < 5)
    (hL : ∀ k, k < r → (rf k < 10 ∧ rt k < 10) ∧ (σ0 13 k = W 9 (4 * k + 2) ∧ σ0 14 k = W 9 (4 * k + 3)) ∧ rb 1690 (σ0 13 k) ∧ rb 1690 (σ0 14 k)) (hg : sB g2 (¬ ∀ p, p < 10 → zit (lgr d rf rt) 0 r V1 11 (20 + p) = 0)) : CH μ W nr rf rt d r σ0 (i + 1) g2 (zit (lset d) 0 10 (zit (lgr d rf rt) 0 r V1)) (zit (cset1 d) 0 24 (cgather rf rt d r σ)) := by
  obtain ⟨hR, hz, hc, -, h37, hW, hσ⟩ := h
  have hR1 : RPl d (500 + 1690 * i) V1 (zit cbeg 0 24 σ) := RPl_c hR (hV 0 (by decide)) (hV 1 (by decide)) (hV 3 (by decide)) (zit_keep (fun i ν => cbeg_o (by omega) i ν) σ 24) (zit_keep (fun i ν => cbeg_o (by omega) i ν) σ 24)
  have b13 : ∀ k, k = 13 ∨ k = 14 → zit cbeg 0 24 σ k = σ0 k := fun k hk => (zit_keep (fun i ν => cbeg_o (by omega) i ν) σ 24).trans (hσ k (by omega) (by omega))
  have hG := gat_all_l (B := 500 + 1690 * i) hr (by omega) hR1 (RGl_0 (fun q _ => by rw [h0])) (fun k hk => by
    obtain ⟨l1, ⟨l2, l3⟩, l4, l5⟩ := hL k hk
    rw [b13 13 (Or.inl rfl), b13 14 (Or.inr rfl), hV 9 (by decide), hW 9 _ (by omega) (by decide), hW 9 _ (by omega) (by decide)]
    exact ⟨l1, ⟨l2, l3⟩, l4, l5⟩) r (Nat.le_refl r)
  have ov : ∀ a, a ≠ 11 → zit (lgr d rf rt) 0 r V1 a = V1 a := fun a ha => lgr_k ha r
  have oc : ∀ k, k ≠ 16 ∧ k ≠ 17 ∧ k ≠ 18 → cgather rf rt d r σ k = σ k := fun k hk => cgather_o hk σ
  have hR2 : RPl d (500 + 1690 * i) (zit (lgr d rf rt) 0 r V1) (cgather rf rt d r σ) := RPl_c hR ((ov 0 (by decide)).trans (hV 0 (by decide))) ((ov 1 (by decide)).trans (hV 1 (by decide))) ((ov 3 (by decide)).trans (hV 3 (by decide))) (oc _ (by omega)) (oc _ (by omega))
  obtain ⟨V2, hV2⟩ : ∃ V2, V2 = zit (lgr d rf rt) 0 r V1 := ⟨_, rfl⟩
  have hG : RGl d (500 + 1690 * i + 1690) r V2 (cgather rf rt d r σ) := by rw [hV2]; exact hG
  rw [← hV2] at hg ov hR2 ⊢
  obtain ⟨r1, r2⟩ := round_l hr (by omega) hR2 hG
  obtain ⟨L1, L2⟩ := lset_f (d := d) V2 10
  have ez : (24 - i) = (24 - (i + 1)) + 1 := by omega
  refine ⟨RPl_m r1 (by omega), ?_, fun e => ?_, by omega, fun p hp => ?_, fun a q h1 h2 => ?_, fun k h1 h2 => ?_⟩
  · have eg : (@ite Int32 (∀ i, i < 10 → V2 11 (20 + i) = 0) (Classical.propDecidable _) (nI 0) (nI 1)) = nI g2 := by
      rcases hg with ⟨e, hn⟩ | ⟨e, hn⟩
      · rw [if_neg hn, e]
      · rw [if_pos (Classical.not_not.mp hn), e]
    rw [hz, ez, zit_sh (fun i j s => rfl), clay_1, r2, eg]
  · have hn : ¬ ∀ p, p < 10 → V2 11 (20 + p) = 0 := hg.elim And.right (fun z => by omega)
    obtain ⟨p, hp, hp0⟩ : ∃ p, p < 10 ∧ ¬ V2 11 (20 + p) = 0 := by
      apply Classical.byContradiction
      intro q
      exact hn (fun p hp => Classical.byContradiction (fun z => q ⟨p, hp, z⟩))
    obtain ⟨m, m1, ⟨m2, -⟩, -, -, m5⟩ := hG.1 p hp
    have hm : 0 < m := by
      rcases Nat.eq_zero_or_pos m with z | z
      · rw [z] at m2; exact absurd m2 hp0
      · exact z
    have e3 : V2 3 = V 3 := (ov 3 (by decide)).trans (hV 3 (by decide))
    have hlt := zcnt_lt (P := fun p => zit (lset d) 0 10 V2 3 (10 * d + p) = -2) (Q := fun p => V 3 (10 * d + p) = -2) (k := p) 10 (fun q hq w => by
      have w : zit (lset d) 0 10 V2 3 (10 * d + q) = -2 := w
      by_cases z : V2 11 (20 + q) = 0
      · rw [(L1 q hq).1 z 3, e3] at w
        exact w
      · rw [((L1 q hq).2 z).2.2] at w
        exact absurd w (by decide)) hp (fun w => by
      have w : zit (lset d) 0 10 V2 3 (10 * d + p) = -2 := w
      rw [((L1 p hp).2 hp0).2.2] at w
      exact absurd w (by decide)) (by
      show V 3 (10 * d + p) = -2
      rw [← e3]
      exact m5 hm)
    have := hc rfl
    omega
  · have C1 := cset1_f (c := d) (cgather rf rt d r σ)
    by_cases z : cgather rf rt d r σ 18 p ≤ 0
    · rw [((C1 p hp).1 z).2.2, oc _ (by omega)]
      exact h37 p hp
    · exact ((C1 p hp).2 z).2.2
  · rw [L2 a q h1, ov a (by omega), hV a h2]
    exact hW a q h1 h2
  · rw [zit_keep (fun i ν => cset1_o h2 i ν) _ 24, oc k h1]
    exact hσ k h1 h2
/-- the start of a chart -/
def lci (d i : Nat) (ν : zMu) : zMu := zu (zu ν 3 (10 * d + i) (if i = 0 then -1 else -2)) 2 (10 * d + i) ((zu ν 3 (10 * d + i) (if i = 0 then -1 else -2)) 4 (20 + i))
theorem lci_n {d i : Nat} {ν : zMu} : zit (lci d) 0 (i + 1) ν = lci d i (zit (lci d) 0 i ν) := by rw [zit_s, Nat.zero_add]
theorem lci_a {d i : Nat} {ν : zMu} : lci d i ν 3 (10 * d + i) = if i = 0 then -1 else -2 := by
  unfold lci
  rw [zu_o (by decide), zu_s]
theorem lci_b {d i : Nat} {ν : zMu} : lci d i ν 2 (10 * d + i) = ν 4 (20 + i) := by
  unfold lci
  rw [zu_s, zu_o (by decide)]
theorem lci_o {d i k q : Nat} {ν : zMu} (h : ¬ ((k = 2 ∨ k = 3) ∧ q = 10 * d + i)) : lci d i ν k q = ν k q := by
  unfold lci
  by_cases e : q = 10 * d + i
  · rw [zu_o (by omega), zu_o (by omega)]
  · rw [zu_o2 e, zu_o2 e]
theorem lci_f {d : Nat} (ν : zMu) : ∀ n, (∀ i, i < n → zit (lci d) 0 n ν 3 (10 * d + i) = (if i = 0 then -1 else -2) ∧ zit (lci d) 0 n ν 2 (10 * d + i) = ν 4 (20 + i)) ∧ ∀ k q, ¬ ((k = 2 ∨ k = 3) ∧ 10 * d ≤ q ∧ q < 10 * d + n) → zit (lci d) 0 n ν k q = ν k q
  | 0 => ⟨fun i hi => absurd hi (Nat.not_lt_zero i), fun k q _ => rfl⟩
  | n + 1 => by
    obtain ⟨i1, i2⟩ := lci_f (d := d) ν n
    rw [lci_n]
    refine ⟨fun i hi => ?_, fun k q hk => ?_⟩
    · by_cases e : i = n
      · subst e
        rw [lci_a, lci_b, i2 4 _ (by omega)]
        exact ⟨rfl, rfl⟩
      · rw [lci_o (by omega), lci_o (by omega)]
        exact i1 i (by omega)
    · rw [lci_o (by omega)]
      exact i2 k q (by omega)
def lc0 (d : Nat) (ν : zMu) : zMu := zu (zu (zu (zit (lci d) 0 10 ν) 0 (10 * d) ((zit (lci d) 0 10 ν) 4 0)) 1 (10 * d) ((zu (zit (lci d) 0 10 ν) 0 (10 * d) ((zit (lci d) 0 10 ν) 4 0)) 4 10)) 6 d (nI 1000)
theorem lc0_f {d : Nat} (ν : zMu) : (∀ i, i < 10 → lc0 d ν 3 (10 * d + i) = (if i = 0 then -1 else -2) ∧ lc0 d ν 2 (10 * d + i) = ν 4 (20 + i)) ∧ (lc0 d ν 0 (10 * d + 0) = ν 4 0 ∧ lc0 d ν 1 (10 * d + 0) = ν 4 10) ∧ lc0 d ν 6 d = nI 1000 ∧ ∀ k q, ¬ (k < 4 ∧ 10 * d ≤ q ∧ q < 10 * d + 10) → ¬ (k = 6 ∧ q = d) → lc0 d ν k q = ν k q := by
  obtain ⟨i1, i2⟩ := lci_f (d := d) ν 10
  refine ⟨fun i hi => ?_, ⟨?_, ?_⟩, ?_, fun k q h1 h2 => ?_⟩
  · unfold lc0
    rw [zu_o (by decide), zu_o (by decide), zu_o (by decide), zu_o (by decide), zu_o (by decide), zu_o (by decide)]
    exact i1 i hi
  · unfold lc0
    rw [zu_o (by decide), zu_o (by decide), Nat.add_zero, zu_s, i2 4 0 (by omega)]
  · unfold lc0
    rw [zu_o (by decide), Nat.add_zero, zu_s, zu_o (by decide), i2 4 10 (by omega)]
  · unfold lc0
    rw [zu_s]
  · have e1 : ∀ x, zu (zu (zu (zit (lci d) 0 10 ν) 0 (10 * d) ((zit (lci d) 0 10 ν) 4 0)) 1 (10 * d) ((zu (zit (lci d) 0 10 ν) 0 (10 * d) ((zit (lci d) 0 10 ν) 4 0)) 4 10)) 6 d x k q = (zu (zu (zit (lci d) 0 10 ν) 0 (10 * d) ((zit (lci d) 0 10 ν) 4 0)) 1 (10 * d) ((zu (zit (lci d) 0 10 ν) 0 (10 * d) ((zit (lci d) 0 10 ν) 4 0)) 4 10)) k q := fun x => by
      by_cases e : k = 6
      · rw [zu_o2 (fun w => h2 ⟨e, w⟩)]
      · rw [zu_o e]
    unfold lc0
    rw [e1]
    by_cases e : q = 10 * d
    · rw [zu_o (by omega), zu_o (by omega), i2 k q (by omega)]
    · rw [zu_o2 e, zu_o2 e, i2 k q (by omega)]
theorem ch_0 {μ ν : zMu} {nc nr ni r : Nat} {rf rt : Nat → Nat} (hI : iv μ ν nc nr ni rf rt) (h5 : nc < 5) : CH μ (lc0 nc ν) nr rf rt nc r (cch1 nc (nI 1000) μ) 0 1 (lc0 nc ν) (cch1 nc (nI 1000) μ) := by
  obtain ⟨-, hT, -⟩ := id hI
  obtain ⟨c1, c2, c3, -⟩ := cch1_f (c := nc) (y := nI 1000) μ
  obtain ⟨w1, w2, w3, w4⟩ := lc0_f (d := nc) ν
  refine ⟨⟨fun p hp => ?_, fun p h1 h2 => c2 p h2 (by omega)⟩, rfl, fun _ => ?_, by omega, fun p hp => (c3 p hp).2, fun a q _ _ => rfl, fun k _ _ => rfl⟩
  · obtain ⟨t1, t2, -, t4, t5, -⟩ := hT.1 0 (by decide)
    by_cases e : p = 0
    · subst e
      right
      have e3 := (w1 0 hp).1
      rw [if_pos rfl] at e3
      rw [e3, w2.1, w2.2, c1.1, c1.2, t1, t2]
      exact ⟨rfl, rfl, rfl, rb_m t4 (by omega), rb_m t5 (by omega)⟩
    · left
      have e3 := (w1 p hp).1
      rw [if_neg e] at e3
      exact ⟨e3, c2 p (by omega) (by omega)⟩
  · have e3 := (w1 0 (by decide)).1
    rw [if_pos rfl] at e3
    have := zcnt_lt (P := fun p => lc0 nc ν 3 (10 * nc + p) = -2) (Q := fun _ => True) (k := 0) 10 (fun _ _ _ => trivial) (by decide) (fun w => by
      have w : lc0 nc ν 3 (10 * nc + 0) = -2 := w
      rw [e3] at w
      exact absurd w (by decide)) trivial
    have h2 := zcnt_n (fun _ : Nat => True) 10
    omega
theorem v_chart {μ ν V σ : zMu} {nc nr ni r i : Nat} {rf rt : Nat → Nat} (hI : iv μ ν nc nr ni rf rt) (h5 : nc < 5) (h : CH μ (lc0 nc ν) nr rf rt nc r (cch1 nc (nI 1000) μ) i 0 V σ) : iv (cchart rf rt nc r (nI 1000) μ) V (nc + 1) nr ni rf rt := by
  obtain ⟨⟨⟨hnc, hn5⟩, -, ⟨hni, hn4⟩⟩, hT, -, hY, hB, hK, hA⟩ := id hI
  obtain ⟨hR, hz, -, hi, h37, hW, hσ⟩ := h
  obtain ⟨c1, c2, c3, c4, c5, c6⟩ := cch1_f (c := nc) (y := nI 1000) μ
  obtain ⟨w1, w2, w3, w4⟩ := lc0_f (d := nc) ν
  have eM : cchart rf rt nc r (nI 1000) μ = zu σ 1 7 (nI (nc + 1)) := by
    unfold cchart
    rw [hz, clay_s]
  rw [eM]
  have Mo : ∀ k, k ≠ 1 → (k < 15 ∨ 18 < k) → (k < 33 + 7 * nc ∨ 38 + 7 * nc < k) → zu σ 1 7 (nI (nc + 1)) k = μ k := fun k h1 h2 h3 => by
    rw [zu_r h1, hσ k (by omega) (by omega)]
    exact funext fun j => c6 k j h3
  have Ms : ∀ k, k ≠ 1 → zu σ 1 7 (nI (nc + 1)) k = σ k := fun k h1 => zu_r h1
  have Vo : ∀ a q, a < 11 → ¬ (a < 4 ∧ 10 * nc ≤ q ∧ q < 10 * nc + 10) → ¬ (a = 6 ∧ q = nc) → V a q = ν a q := fun a q h1 h2 h3 => (hW a q (by omega) h1).trans (w4 a q h2 h3)
  have Vf : ∀ a, 4 ≤ a → a < 11 → a ≠ 6 → V a = ν a := fun a h1 h2 h3 => funext fun q => Vo a q h2 (by omega) (fun z => h3 z.1)
  refine iv_mk hI (fun k h1 h2 => Mo k h1 (by omega) (by omega)) (Vf 4 (by omega) (by omega) (by omega)) (Vf 9 (by omega) (by omega) (by omega)) zu_s (by rw [Mo 21 (by omega) (by omega) (by omega)]; exact hni) (by omega) hn4 (jY (fun k h1 h2 => Mo k (by omega) (by omega) (by omega)) (Vf 7 (by omega) (by omega) (by omega)) (Vf 8 (by omega) (by omega) (by omega)) hY) ⟨fun k hk => ?_, fun d hd j hj => ?_⟩ (fun d hd => ?_) (fun p hp => ?_)
  · obtain ⟨v, v1, v2, v3⟩ := hB.1 k hk
    rw [Vf 5 (by omega) (by omega) (by omega)]
    refine ⟨v, v1, v2, fun d hd => ?_⟩
    rw [Mo _ (by omega) (by omega) (by omega)]
    exact v3 d hd
  · rw [Mo _ (by omega) (by omega) (by omega)]
    exact ⟨(hB.2 d hd j hj).1, fun q => (hB.2 d hd j hj).2 (by omega)⟩
  · by_cases e : d = nc
    · subst e
      refine ⟨⟨?_, 1000, by omega, by omega, ?_⟩, ?_, fun p hp => ?_, fun p h1 h2 => ?_⟩
      · rw [Ms _ (by omega), hσ _ (by omega) (by omega), c4, hW 6 _ (by omega) (by decide), w3]
      · rw [hW 6 _ (by omega) (by decide), w3]
      · rw [Ms _ (by omega), hσ _ (by omega) (by omega), c5 0 (by decide)]
      · have e2 : V 2 (10 * d + p) = ν 4 (20 + p) := (hW 2 _ (by omega) (by decide)).trans (w1 p hp).2
        obtain ⟨-, -, t3, -, -, t6⟩ := hT.1 p hp
        unfold iP
        rw [Ms _ (by omega), Ms _ (by omega), Ms _ (by omega), Ms _ (by omega), hσ (36 + 7 * d) (by omega) (by omega), (c3 p (by omega)).1, e2, h37 p (by omega)]
        refine ⟨⟨t3, t6⟩, ?_⟩
        rcases hR.1 p hp with ⟨q1, q2, q3⟩ | ⟨q1, q2, q3, q4, q5⟩
        · exact Or.inl ⟨q1, q2, q3, rfl⟩
        · exact Or.inr ⟨Or.inl q1, q2, q3, q1.symm, rb_m q4 (by omega), rb_m q5 (by omega)⟩
      · unfold iO
        rw [Ms _ (by omega), Ms _ (by omega), Ms _ (by omega), Ms _ (by omega), hσ (36 + 7 * d) (by omega) (by omega), (c3 p h2).1, h37 p h2]
        exact ⟨hT.2 p h1 h2, (hR.2 p h1 h2).1, (hR.2 p h1 h2).2, rfl⟩
    · obtain ⟨k1, k2, k3, k4⟩ := hK d (by omega)
      refine ⟨?_, ?_, fun p hp => ?_, fun p h1 h2 => ?_⟩
      · rw [Mo _ (by omega) (by omega) (by omega), Vo 6 d (by omega) (by omega) (fun z => e z.2)]; exact k1
      · rw [Mo _ (by omega) (by omega) (by omega)]; exact k2
      · exact iP_v (by omega) (by rw [Mo _ (by omega) (by omega) (by omega)]) (by rw [Mo _ (by omega) (by omega) (by omega)]) (by rw [Mo _ (by omega) (by omega) (by omega)]) (by rw [Mo _ (by omega) (by omega) (by omega)]) (fun b hb => Vo b _ (by omega) (by omega) (by omega)) (k3 p hp)
      · have h9 := k4 p h1 h2
        unfold iO at h9 ⊢
        rw [Mo _ (by omega) (by omega) (by omega), Mo _ (by omega) (by omega) (by omega), Mo _ (by omega) (by omega) (by omega), Mo _ (by omega) (by omega) (by omega)]
        exact h9
  · obtain ⟨f, hf⟩ := hA p hp
    refine ⟨f, fun d hd j hj e => ?_⟩
    by_cases e1 : d = nc
    · subst e1
      rw [Ms _ (by omega), h37 p hp] at e
      exact absurd e (znm1 (by omega))
    · rw [Mo _ (by omega) (by omega) (by omega)] at e
      obtain ⟨g1, g2⟩ := hf d (by omega) j hj e
      exact ⟨by omega, g2⟩
