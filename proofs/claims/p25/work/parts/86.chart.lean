/-! chart: the rounds of the law are the class's -/
def RPl (d B : Nat) (V σ : zMu) : Prop := (∀ p, p < 10 → (V 3 (10 * d + p) = -2 ∧ σ (34 + 7 * d) p = 100000 ∧ σ (35 + 7 * d) p = 100000) ∨ (V 3 (10 * d + p) = -1 ∧ σ (34 + 7 * d) p = V 0 (10 * d + p) ∧ σ (35 + 7 * d) p = V 1 (10 * d + p) ∧ rb B (V 0 (10 * d + p)) ∧ rb B (V 1 (10 * d + p)))) ∧ ∀ p, 10 ≤ p → p < 24 → σ (34 + 7 * d) p = 100000 ∧ σ (35 + 7 * d) p = 100000
def RGl (d B j : Nat) (V σ : zMu) : Prop := (∀ p, p < 10 → ∃ m, m ≤ j ∧ (V 11 (20 + p) = nI m ∧ σ 18 p = nI m) ∧ (V 11 p = σ 16 p ∧ V 11 (10 + p) = σ 17 p) ∧ (rb (m * B) (σ 16 p) ∧ rb (m * B) (σ 17 p)) ∧ (0 < m → V 3 (10 * d + p) = -2)) ∧ ∀ p, 10 ≤ p → p < 24 → σ 18 p = nI 0
section ZCH
variable {d B j : Nat} {V V' σ σ' : zMu}
theorem RPl_m {B' : Nat} (h : RPl d B V σ) (hB : B ≤ B') : RPl d B' V σ := ⟨fun p hp => by
  rcases h.1 p hp with q | ⟨q1, q2, q3, q4, q5⟩
  · exact Or.inl q
  · exact Or.inr ⟨q1, q2, q3, rb_m q4 hB, rb_m q5 hB⟩, h.2⟩
theorem RPl_c (h : RPl d B V σ) (e0 : V' 0 = V 0) (e1 : V' 1 = V 1) (e3 : V' 3 = V 3) (e34 : σ' (34 + 7 * d) = σ (34 + 7 * d)) (e35 : σ' (35 + 7 * d) = σ (35 + 7 * d)) : RPl d B V' σ' := by
  unfold RPl at h ⊢
  rw [e0, e1, e3, e34, e35]
  exact h
theorem RPl_k {p : Nat} (h : RPl d B V σ) (hB : B < 100000) (hp : p < 10) : (zkn σ d p ↔ ¬ V 3 (10 * d + p) = -2) ∧ (V 3 (10 * d + p) ≤ -2 ↔ V 3 (10 * d + p) = -2) := by
  rcases h.1 p hp with ⟨q1, q2, -⟩ | ⟨q1, q2, -, q4, -⟩
  · exact ⟨⟨fun z => absurd q2 z, fun z => absurd q1 z⟩, ⟨fun _ => q1, fun _ => by rw [q1]; decide⟩⟩
  · refine ⟨⟨fun _ => by rw [q1]; decide, fun _ => by unfold zkn; rw [q2]; exact rb_n0 q4 hB⟩, ?_⟩
    rw [q1]
    exact ⟨fun z => absurd z (by decide), fun z => absurd z (by decide)⟩
theorem RGl_s (h : RGl d B j V σ) : RGl d B (j + 1) V σ := ⟨fun p hp => by
  obtain ⟨m, h1, h2⟩ := h.1 p hp
  exact ⟨m, by omega, h2⟩, h.2⟩
/-- what a known point gives to another one -/
def lga (d fr to : Nat) (x : Int32) (V : zMu) : zMu := zu V 11 to (V 11 to + (V 0 (10 * d + fr) + x))
def lgb (d fr to : Nat) (y : Int32) (V : zMu) : zMu := zu V 11 (10 + to) (V 11 (10 + to) + (V 1 (10 * d + fr) + y))
def lgc (to : Nat) (V : zMu) : zMu := zu V 11 (20 + to) (V 11 (20 + to) + nI 1)
def lgf (d fr to : Nat) (x y : Int32) (V : zMu) : zMu := if V 3 (10 * d + fr) = -2 ∨ ¬ V 3 (10 * d + to) ≤ -2 then V else lgc to (lgb d fr to y (lga d fr to x V))
theorem lgf_o {fr to a : Nat} {x y : Int32} (h : a ≠ 11) : lgf d fr to x y V a = V a := by
  unfold lgf
  by_cases e : V 3 (10 * d + fr) = -2 ∨ ¬ V 3 (10 * d + to) ≤ -2
  · rw [if_pos e]
  · rw [if_neg e]
    unfold lgc lgb lga
    rw [zu_r h, zu_r h, zu_r h]
theorem RGl_g {fr to : Nat} {x y : Int32} (hG : RGl d B j V σ) (hj : j < 60) (hB : B ≤ 41060) (ht : to < 10) (h0 : V 3 (10 * d + to) = -2) (hx : rb B (V 0 (10 * d + fr) + x)) (hy : rb B (V 1 (10 * d + fr) + y)) : RGl d B (j + 1) (lgc to (lgb d fr to y (lga d fr to x V))) (zgive σ to (V 0 (10 * d + fr) + x) (V 1 (10 * d + fr) + y)) := by
  have e1 : ∀ i, i ≠ to → i ≠ 10 + to → i ≠ 20 + to → lgc to (lgb d fr to y (lga d fr to x V)) 11 i = V 11 i := fun i h1 h2 h3 => by
    unfold lgc lgb lga
    rw [zu_o2 h3, zu_o2 h2, zu_o2 h1]
  have e2 : lgc to (lgb d fr to y (lga d fr to x V)) 11 to = V 11 to + (V 0 (10 * d + fr) + x) := by
    unfold lgc lgb
    rw [zu_o2 (by omega), zu_o2 (by omega)]
    unfold lga
    rw [zu_s]
  have e3 : lgc to (lgb d fr to y (lga d fr to x V)) 11 (10 + to) = V 11 (10 + to) + (V 1 (10 * d + fr) + y) := by
    unfold lgc
    rw [zu_o2 (by omega)]
    unfold lgb
    rw [zu_s]
    unfold lga
    rw [zu_o2 (by omega), zu_o (by decide)]
  have e4 : lgc to (lgb d fr to y (lga d fr to x V)) 11 (20 + to) = V 11 (20 + to) + nI 1 := by
    unfold lgc
    rw [zu_s]
    unfold lgb lga
    rw [zu_o2 (by omega), zu_o2 (by omega)]
  have e5 : ∀ a i, a ≠ 11 → lgc to (lgb d fr to y (lga d fr to x V)) a i = V a i := fun a i h => by
    unfold lgc lgb lga
    rw [zu_o h, zu_o h, zu_o h]
  refine ⟨fun p hp => ?_, fun p h1 h2 => ?_⟩
  · obtain ⟨m, h1, ⟨h2, h3⟩, ⟨h4, h5⟩, ⟨h6, h7⟩, h8⟩ := hG.1 p hp
    by_cases e : p = to
    · subst e
      have hm : (m + 1) * B ≤ 60 * 41060 := Nat.mul_le_mul (by omega) hB
      have hm2 : m * B + B ≤ (m + 1) * B := by rw [Nat.succ_mul]; exact Nat.le_refl _
      rw [e2, e3, e4, e5 3 _ (by decide)]
      refine ⟨m + 1, by omega, ⟨by rw [h2, nI_add], ?_⟩, ⟨?_, ?_⟩, ⟨?_, ?_⟩, fun _ => h0⟩
      · unfold zgive
        rw [zu_s, h3, nI_add]
      · unfold zgive
        rw [zu_o (by omega), zu_o (by omega), zu_s, h4]
      · unfold zgive
        rw [zu_o (by omega), zu_s, h5]
      · unfold zgive
        rw [zu_o (by omega), zu_o (by omega), zu_s]
        exact rb_add h6 hx hm2 (by omega)
      · unfold zgive
        rw [zu_o (by omega), zu_s]
        exact rb_add h7 hy hm2 (by omega)
    · rw [e1 p e (by omega) (by omega), e1 (10 + p) (by omega) (by omega) (by omega), e1 (20 + p) (by omega) (by omega) (by omega), e5 3 _ (by decide)]
      unfold zgive
      rw [zu_o2 e, zu_o (show 18 ≠ 17 by decide), zu_o (show 18 ≠ 16 by decide), zu_o (show 16 ≠ 18 by decide), zu_o (show 16 ≠ 17 by decide), zu_o2 e, zu_o (show 17 ≠ 18 by decide), zu_o2 e, zu_o (show 17 ≠ 16 by decide)]
      exact ⟨m, by omega, ⟨h2, h3⟩, ⟨h4, h5⟩, ⟨h6, h7⟩, h8⟩
  · unfold zgive
    rw [zu_o2 (by omega), zu_o (show 18 ≠ 17 by decide), zu_o (show 18 ≠ 16 by decide)]
    exact hG.2 p h1 h2
/-- one report, both ways -/
def lgr (d : Nat) (rf rt : Nat → Nat) (j : Nat) (V : zMu) : zMu := lgf d (rt j) (rf j) (-(V 9 (4 * j + 2))) (-(V 9 (4 * j + 3))) (lgf d (rf j) (rt j) (V 9 (4 * j + 2)) (V 9 (4 * j + 3)) V)
theorem lgr_o {rf rt : Nat → Nat} {a : Nat} (h : a ≠ 11) : lgr d rf rt j V a = V a := by unfold lgr; rw [lgf_o h, lgf_o h]
theorem gat_l {rf rt : Nat → Nat} (hj : j < 60) (hB : B + 1690 ≤ 41060) (hR : RPl d B V σ) (hG : RGl d (B + 1690) j V σ) (hf : rf j < 10) (ht : rt j < 10) (e13 : σ 13 j = V 9 (4 * j + 2)) (e14 : σ 14 j = V 9 (4 * j + 3)) (r13 : rb 1690 (σ 13 j)) (r14 : rb 1690 (σ 14 j)) : RGl d (B + 1690) (j + 1) (lgr d rf rt j V) (cgat rf rt d j σ) := by
  obtain ⟨f1, f2⟩ := RPl_k hR (by omega) hf
  obtain ⟨t1, t2⟩ := RPl_k hR (by omega) ht
  unfold cgat lgr
  rw [e13] at r13
  rw [e14] at r14
  have o3 : ∀ fr to x y, lgf d fr to x y V 3 = V 3 := fun fr to x y => lgf_o (by decide)
  by_cases kf : V 3 (10 * d + rf j) = -2
  · have zf : ¬ zkn σ d (rf j) := fun z => f1.mp z kf
    rw [if_neg (fun q => zf q.1)]
    have s1 : lgf d (rf j) (rt j) (V 9 (4 * j + 2)) (V 9 (4 * j + 3)) V = V := if_pos (Or.inl kf)
    rw [s1]
    by_cases kt : V 3 (10 * d + rt j) = -2
    · have zt' : ¬ zkn σ d (rt j) := fun z => t1.mp z kt
      rw [if_neg (fun q => zt' q.1)]
      have s2 : lgf d (rt j) (rf j) (-(V 9 (4 * j + 2))) (-(V 9 (4 * j + 3))) V = V := if_pos (Or.inl kt)
      rw [s2]
      exact RGl_s hG
    · have zt' : zkn σ d (rt j) := t1.mpr kt
      rw [if_pos ⟨zt', zf⟩]
      have s2 : lgf d (rt j) (rf j) (-(V 9 (4 * j + 2))) (-(V 9 (4 * j + 3))) V = lgc (rf j) (lgb d (rt j) (rf j) (-(V 9 (4 * j + 3))) (lga d (rt j) (rf j) (-(V 9 (4 * j + 2))) V)) := if_neg (fun q => q.elim kt (fun z => z (f2.mpr kf)))
      rw [s2]
      rcases hR.1 (rt j) ht with ⟨q, -⟩ | ⟨-, g2, g3, g4, g5⟩
      · exact absurd q kt
      · rw [e13, e14, g2, g3, Int32.sub_eq_add_neg, Int32.sub_eq_add_neg]
        exact RGl_g hG hj hB hf kf (rb_add g4 (rb_neg r13 (by omega)) (Nat.le_refl _) (by omega)) (rb_add g5 (rb_neg r14 (by omega)) (Nat.le_refl _) (by omega))
  · have zf : zkn σ d (rf j) := f1.mpr kf
    by_cases kt : V 3 (10 * d + rt j) = -2
    · have zt' : ¬ zkn σ d (rt j) := fun z => t1.mp z kt
      rw [if_pos ⟨zf, zt'⟩]
      have s2 : ∀ x y W, W 3 = V 3 → lgf d (rt j) (rf j) x y W = W := fun x y W hW => if_pos (Or.inl (by rw [hW]; exact kt))
      rw [s2 _ _ _ (o3 _ _ _ _)]
      have s1 : lgf d (rf j) (rt j) (V 9 (4 * j + 2)) (V 9 (4 * j + 3)) V = lgc (rt j) (lgb d (rf j) (rt j) (V 9 (4 * j + 3)) (lga d (rf j) (rt j) (V 9 (4 * j + 2)) V)) := if_neg (fun q => q.elim kf (fun z => z (t2.mpr kt)))
      rw [s1]
      rcases hR.1 (rf j) hf with ⟨q, -⟩ | ⟨-, g2, g3, g4, g5⟩
      · exact absurd q kf
      · rw [e13, e14, g2, g3]
        exact RGl_g hG hj hB ht kt (rb_add g4 r13 (Nat.le_refl _) (by omega)) (rb_add g5 r14 (Nat.le_refl _) (by omega))
    · have zt' : zkn σ d (rt j) := t1.mpr kt
      rw [if_neg (fun q => q.2 zt'), if_neg (fun q => q.2 zf)]
      have s1 : lgf d (rf j) (rt j) (V 9 (4 * j + 2)) (V 9 (4 * j + 3)) V = V := if_pos (Or.inr (fun z => kt (t2.mp z)))
      have s2 : lgf d (rt j) (rf j) (-(V 9 (4 * j + 2))) (-(V 9 (4 * j + 3))) V = V := if_pos (Or.inr (fun z => kf (f2.mp z)))
      rw [s1, s2]
      exact RGl_s hG
theorem lgr_k {rf rt : Nat → Nat} {a : Nat} (h : a ≠ 11) : ∀ n, zit (lgr d rf rt) 0 n V a = V a
  | 0 => rfl
  | n + 1 => by rw [zit_s, lgr_o h, lgr_k h n]
theorem gat_all_l {rf rt : Nat → Nat} {r : Nat} (hr : r ≤ 60) (hB : B + 1690 ≤ 41060) (hR : RPl d B V σ) (hG : RGl d (B + 1690) 0 V σ) (hL : ∀ k, k < r → (rf k < 10 ∧ rt k < 10) ∧ (σ 13 k = V 9 (4 * k + 2) ∧ σ 14 k = V 9 (4 * k + 3)) ∧ rb 1690 (σ 13 k) ∧ rb 1690 (σ 14 k)) : ∀ n, n ≤ r → RGl d (B + 1690) n (zit (lgr d rf rt) 0 n V) (zit (cgat rf rt d) 0 n σ)
  | 0, _ => hG
  | n + 1, h => by
    have ih := gat_all_l hr hB hR hG hL n (by omega)
    obtain ⟨⟨l1, l2⟩, ⟨l3, l4⟩, l5, l6⟩ := hL n (by omega)
    have oc : ∀ k, k ≠ 16 ∧ k ≠ 17 ∧ k ≠ 18 → zit (cgat rf rt d) 0 n σ k = σ k := fun k hk => zit_keep (cgat_o hk) σ n
    have ov : ∀ a, a ≠ 11 → zit (lgr d rf rt) 0 n V a = V a := fun a ha => lgr_k ha n
    rw [zit_s, zit_s, Nat.zero_add]
    refine gat_l (by omega) hB (RPl_c hR (ov 0 (by decide)) (ov 1 (by decide)) (ov 3 (by decide)) (oc _ (by omega)) (oc _ (by omega))) ih l1 l2 ?_ ?_ ?_ ?_
    · rw [oc 13 (by decide), ov 9 (by decide)]; exact l3
    · rw [oc 14 (by decide), ov 9 (by decide)]; exact l4
    · rw [oc 13 (by decide)]; exact l5
    · rw [oc 14 (by decide)]; exact l6
theorem RGl_0 (h : ∀ i, i < 32 → V 11 i = 0) : RGl d B 0 V (zit cbeg 0 24 σ) := by
  refine ⟨fun p hp => ?_, fun p h1 h2 => (cbeg_f σ p h2).2.2⟩
  obtain ⟨c1, c2, c3⟩ := cbeg_f σ p (by omega)
  have r0 : rb (0 * B) (nI 0) := by
    unfold rb
    rw [nI_toInt (by decide), Nat.zero_mul]
    omega
  rw [c1, c2, c3, h p (by omega), h (10 + p) (by omega), h (20 + p) (by omega)]
  exact ⟨0, Nat.le_refl 0, ⟨rfl, rfl⟩, ⟨rfl, rfl⟩, ⟨r0, r0⟩, fun q => absurd q (by omega)⟩
/-- what a round puts -/
def lsa (d i : Nat) (V : zMu) : zMu := zu V 0 (10 * d + i) (V 11 i / V 11 (20 + i))
def lsb (d i : Nat) (V : zMu) : zMu := zu V 1 (10 * d + i) (V 11 (10 + i) / V 11 (20 + i))
def lsc (d i : Nat) (V : zMu) : zMu := zu V 3 (10 * d + i) (-1)
def lset (d i : Nat) (V : zMu) : zMu := if V 11 (20 + i) = 0 then V else lsc d i (lsb d i (lsa d i V))
theorem lset_n {i : Nat} : zit (lset d) 0 (i + 1) V = lset d i (zit (lset d) 0 i V) := by rw [zit_s, Nat.zero_add]
theorem lset_o {i k q : Nat} (h : ¬ ((k = 0 ∨ k = 1 ∨ k = 3) ∧ q = 10 * d + i)) : lset d i V k q = V k q := by
  unfold lset
  by_cases e : V 11 (20 + i) = 0
  · rw [if_pos e]
  · rw [if_neg e]
    unfold lsc lsb lsa
    by_cases e2 : q = 10 * d + i
    · rw [zu_o (by omega), zu_o (by omega), zu_o (by omega)]
    · rw [zu_o2 e2, zu_o2 e2, zu_o2 e2]
theorem lset_v {i : Nat} (h : ¬ V 11 (20 + i) = 0) : lset d i V 0 (10 * d + i) = V 11 i / V 11 (20 + i) ∧ lset d i V 1 (10 * d + i) = V 11 (10 + i) / V 11 (20 + i) ∧ lset d i V 3 (10 * d + i) = -1 := by
  unfold lset
  rw [if_neg h]
  refine ⟨?_, ?_, ?_⟩
  · unfold lsc lsb
    rw [zu_o (by decide), zu_o (by decide)]
    unfold lsa
    rw [zu_s]
  · unfold lsc
    rw [zu_o (by decide)]
    unfold lsb
    rw [zu_s]
    unfold lsa
    rw [zu_o (by decide), zu_o (by decide)]
  · unfold lsc
    rw [zu_s]
theorem lset_f (V : zMu) (n : Nat) : (∀ i, i < n → (V 11 (20 + i) = 0 → ∀ k, zit (lset d) 0 n V k (10 * d + i) = V k (10 * d + i)) ∧ (¬ V 11 (20 + i) = 0 → zit (lset d) 0 n V 0 (10 * d + i) = V 11 i / V 11 (20 + i) ∧ zit (lset d) 0 n V 1 (10 * d + i) = V 11 (10 + i) / V 11 (20 + i) ∧ zit (lset d) 0 n V 3 (10 * d + i) = -1)) ∧ ∀ k q, ¬ ((k = 0 ∨ k = 1 ∨ k = 3) ∧ 10 * d ≤ q ∧ q < 10 * d + n) → zit (lset d) 0 n V k q = V k q := by
  have h := zit_pt (f := lset d) (a := 0) (N := n) (q := 10 * d) (S := fun k => k = 0 ∨ k = 1 ∨ k = 3) (fun i ν k q hh => lset_o hh) (fun i ν ν' h1 h2 hh k hk => by
    have e : ∀ q, ν 11 q = ν' 11 q := fun q => hh _ _ (fun z => absurd z (by omega))
    have e3 : ∀ k, (k = 0 ∨ k = 1 ∨ k = 3) → ν k (10 * d + i) = ν' k (10 * d + i) := fun k _ => hh _ _ (fun _ => Or.inl rfl)
    by_cases z : ν 11 (20 + i) = 0
    · have a1 : lset d i ν = ν := if_pos z
      have a2 : lset d i ν' = ν' := if_pos ((e _).symm.trans z)
      rw [a1, a2]
      exact e3 k hk
    · obtain ⟨b0, b1, b3⟩ := lset_v (d := d) z
      obtain ⟨c0, c1, c3⟩ := lset_v (d := d) (V := ν') (i := i) (fun q => z ((e _).trans q))
      rcases hk with rfl | rfl | rfl
      · rw [b0, c0, e, e]
      · rw [b1, c1, e, e]
      · rw [b3, c3]) V n (Nat.le_refl n)
  refine ⟨fun i hi => ⟨fun z k => ?_, fun z => ?_⟩, fun k q hk => h.2 k q (fun w => hk (by omega))⟩
  · by_cases hk : k = 0 ∨ k = 1 ∨ k = 3
    · rw [h.1 k i hk (Nat.zero_le i) (by omega)]
      have a1 : lset d i V = V := if_pos z
      rw [a1]
    · exact h.2 k _ (fun w => hk w.1)
  · rw [h.1 0 i (Or.inl rfl) (Nat.zero_le i) (by omega), h.1 1 i (Or.inr (Or.inl rfl)) (Nat.zero_le i) (by omega), h.1 3 i (Or.inr (Or.inr rfl)) (Nat.zero_le i) (by omega)]
    exact lset_v z
/-- a round: places, and whether it goes on -/
theorem round_l {r : Nat} {V2 σ2 : zMu} (hr : r ≤ 60) (hB : B + 1690 ≤ 41060) (hR : RPl d B V2 σ2) (hG : RGl d (B + 1690) r V2 σ2) : RPl d (B + 1690) (zit (lset d) 0 10 V2) (zit (cset1 d) 0 24 σ2) ∧ zfl1 (σ2 18) 24 = (@ite Int32 (∀ i, i < 10 → V2 11 (20 + i) = 0) (Classical.propDecidable _) (nI 0) (nI 1)) := by
  obtain ⟨L1, L2⟩ := lset_f (d := d) V2 10
  have C1 := cset1_f (c := d) σ2
  have n0 : ∀ m, m < 2147483648 → (nI m = 0 ↔ m = 0) := fun m hm => z0e hm
  refine ⟨⟨fun p hp => ?_, fun p h1 h2 => ?_⟩, ?_⟩
  · obtain ⟨m, h1, ⟨h2, h3⟩, ⟨h4, h5⟩, ⟨h6, h7⟩, h8⟩ := hG.1 p hp
    by_cases e : m = 0
    · have z : V2 11 (20 + p) = 0 := by rw [h2, e]; rfl
      have z2 : σ2 18 p ≤ 0 := by rw [h3, e]; decide
      obtain ⟨c1, c2, -⟩ := (C1 p (by omega)).1 z2
      rw [(L1 p hp).1 z, (L1 p hp).1 z, (L1 p hp).1 z, c1, c2]
      exact (RPl_m hR (by omega)).1 p hp
    · have z : ¬ V2 11 (20 + p) = 0 := by rw [h2, n0 m (by omega)]; exact e
      have z2 : ¬ σ2 18 p ≤ 0 := by rw [h3, z0l (by omega)]; exact e
      obtain ⟨c1, c2, -⟩ := (C1 p (by omega)).2 z2
      obtain ⟨l1, l2, l3⟩ := (L1 p hp).2 z
      rw [l1, l2, l3, c1, c2, h2, h3, h4, h5]
      have hd : m * (B + 1690) / m ≤ B + 1690 := by rw [Nat.mul_div_cancel_left _ (by omega)]; exact Nat.le_refl _
      exact Or.inr ⟨rfl, rfl, rfl, rb_div h6 (by omega) hd, rb_div h7 (by omega) hd⟩
  · have z2 : σ2 18 p ≤ 0 := by rw [hG.2 p h1 h2]; decide
    obtain ⟨c1, c2, -⟩ := (C1 p h2).1 z2
    rw [c1, c2]
    exact hR.2 p h1 h2
  · by_cases e : ∀ i, i < 10 → V2 11 (20 + i) = 0
    · rw [if_pos e]
      refine zfl1_0 (fun i hi => ?_)
      by_cases h : i < 10
      · obtain ⟨m, h1, ⟨h2, h3⟩, -⟩ := hG.1 i h
        have := (n0 m (by omega)).mp (h2.symm.trans (e i h))
        rw [h3, this]
        decide
      · rw [hG.2 i (by omega) hi]
        decide
    · rw [if_neg e]
      refine zfl1_1 (fun q => e (fun i hi => ?_))
      obtain ⟨m, h1, ⟨h2, h3⟩, -⟩ := hG.1 i hi
      have h9 := q i (by omega)
      rw [h3, z0l (by omega)] at h9
      rw [h2, h9]
      rfl
end ZCH
