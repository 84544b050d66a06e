/-! exchange, hand and reads, island, paint, lose: what joins class and law is kept -/
section ZOPS
variable {μ μ' ν ν' : zMu} {nc nr ni : Nat} {rf rt : Nat → Nat}
theorem iP_nm {c p : Nat} (h : iP μ ν nc c p) (e34 : μ' (34 + 7 * c) p = μ (34 + 7 * c) p) (e35 : μ' (35 + 7 * c) p = μ (35 + 7 * c) p) (e37 : μ' (37 + 7 * c) p = μ (37 + 7 * c) p) (e : ∀ b, b < 4 → b ≠ 2 → ν' b (10 * c + p) = ν b (10 * c + p)) (hn : μ' (36 + 7 * c) p = ν' 2 (10 * c + p) ∧ ∃ m, 1 ≤ m ∧ m ≤ 12 ∧ ν' 2 (10 * c + p) = nI m) : iP μ' ν' nc c p := by
  unfold iP at h ⊢
  rw [e34, e35, e37, e 0 (by omega) (by omega), e 1 (by omega) (by omega), e 3 (by omega) (by omega)]
  exact ⟨hn, h.2⟩
theorem v_exchange (hI : iv μ ν nc nr ni rf rt) {c p r : Nat} (hc : c < nc) (hp : p < 10) (hr : r < 10) : iv (zu (zu μ (36 + 7 * c) p (μ (36 + 7 * c) r)) (36 + 7 * c) r (μ (36 + 7 * c) p)) (zu (zu ν 2 (10 * c + p) (ν 2 (10 * c + r))) 2 (10 * c + r) (ν 2 (10 * c + p))) nc nr ni rf rt := by
  obtain ⟨⟨⟨hnc, hn5⟩, -, -⟩, -, -, -, -, hK, hA⟩ := id hI
  have hP := (hK c hc).2.2.1
  refine iv_row hc (fun k j hk => ?_) (fun b j hj => ?_) (fun i hi => ?_) (fun i h1 h2 => ?_) (jA hn5 (fun d hd => ?_) hA) hI
  · rw [zu_o (by omega), zu_o (by omega)]
  · by_cases e : b = 2
    · rw [zu_o2 (by omega), zu_o2 (by omega)]
    · rw [zu_o e, zu_o e]
  · refine iP_nm (hP i hi) (by rw [zu_o (by omega), zu_o (by omega)]) (by rw [zu_o (by omega), zu_o (by omega)]) (by rw [zu_o (by omega), zu_o (by omega)]) (fun b h1 h2 => by rw [zu_o h2, zu_o h2]) ?_
    by_cases e : i = r
    · subst e
      rw [zu_s, zu_s]
      exact (hP p hp).1
    · rw [zu_o2 e, zu_o2 (show 10 * c + i ≠ 10 * c + r by omega)]
      by_cases e2 : i = p
      · subst e2
        rw [zu_s, zu_s]
        exact (hP r hr).1
      · rw [zu_o2 e2, zu_o2 (show 10 * c + i ≠ 10 * c + p by omega)]
        exact (hP i hi).1
  · have h9 := (hK c hc).2.2.2 i h1 h2
    unfold iO at h9 ⊢
    rw [zu_o2 (show i ≠ r by omega), zu_o2 (show i ≠ p by omega), zu_o2 (show i ≠ r by omega), zu_o2 (show i ≠ p by omega), zu_o2 (show i ≠ r by omega), zu_o2 (show i ≠ p by omega), zu_o2 (show i ≠ r by omega), zu_o2 (show i ≠ p by omega)]
    exact h9
  · rw [zu_r (by omega), zu_r (by omega)]
theorem v_hand (hI : iv μ ν nc nr ni rf rt) {q m w : Nat} {h : Int32} (hq : q < 4) (hh : rb 9 h) (hm : m < 10) (hw : w < 12) : iv (zu (zu μ (25 + 2 * q) 0 h) (26 + 2 * q) (1 + m) (nI (1 + w))) (zu (zu ν 7 q h) 8 (16 * q + (1 + m)) (nI (1 + w))) nc nr ni rf rt := by
  obtain ⟨⟨⟨hnc, hn5⟩, -, ⟨hni, hn4⟩⟩, -, -, hY, hB, hK, hA⟩ := id hI
  have o : ∀ k, (k < 25 ∨ 32 < k) → (zu (zu μ (25 + 2 * q) 0 h) (26 + 2 * q) (1 + m) (nI (1 + w))) k = μ k := fun k hk => by rw [zu_r (by omega), zu_r (by omega)]
  have o2 : ∀ a, a ≠ 7 → a ≠ 8 → (zu (zu ν 7 q h) 8 (16 * q + (1 + m)) (nI (1 + w))) a = ν a := fun a h1 h2 => by rw [zu_r h2, zu_r h1]
  refine iv_mk hI (fun k h1 h2 => o k (by omega)) (o2 4 (by omega) (by omega)) (o2 9 (by omega) (by omega)) (by rw [o 1 (by omega)]; exact hnc) (by rw [o 21 (by omega)]; exact hni) hn5 hn4 (fun q2 hq2 => ?_) (jB (fun c hc => o _ (by omega)) (o2 5 (by omega) (by omega)) hB) (jK (fun k h1 h2 h3 => o k (by omega)) hn5 (o2 0 (by omega) (by omega)) (o2 1 (by omega) (by omega)) (o2 2 (by omega) (by omega)) (o2 3 (by omega) (by omega)) (o2 6 (by omega) (by omega)) hK) (jA hn5 (fun c hc => o _ (by omega)) hA)
  obtain ⟨y1, y2, y3⟩ := hY q2 hq2
  refine ⟨?_, fun m2 h1 h2 => ?_, fun m2 h1 h2 => ?_⟩
  · rw [zu_o (show 25 + 2 * q2 ≠ 26 + 2 * q by omega), zu_o (show 7 ≠ 8 by decide)]
    by_cases e : q2 = q
    · subst e
      rw [zu_s, zu_s]
      exact ⟨rfl, hh⟩
    · rw [zu_o (show 25 + 2 * q2 ≠ 25 + 2 * q by omega), zu_o2 e]
      exact y1
  · by_cases e : q2 = q ∧ m2 = 1 + m
    · obtain ⟨rfl, rfl⟩ := e
      rw [zu_s, zu_s]
      exact ⟨rfl, 1 + w, by omega, by omega, rfl⟩
    · rw [zu_o2 (show 16 * q2 + m2 ≠ 16 * q + (1 + m) by omega), zu_o (show 8 ≠ 7 by decide)]
      have e1 : (zu (zu μ (25 + 2 * q) 0 h) (26 + 2 * q) (1 + m) (nI (1 + w))) (26 + 2 * q2) m2 = μ (26 + 2 * q2) m2 := by
        by_cases e3 : q2 = q
        · rw [zu_o2 (show m2 ≠ 1 + m from fun z => e ⟨e3, z⟩), zu_o (by omega)]
        · rw [zu_o (by omega), zu_o (by omega)]
      rw [e1]
      exact y2 m2 h1 h2
  · rw [zu_o2 (show m2 ≠ 1 + m by omega), zu_o (by omega)]
    exact y3 m2 h1 h2
theorem bit_1 : ∀ c, c < 5 → (nI 1 <<< (nI c &&& 31)) = nI (nI 1 <<< (nI c &&& 31)).toNatClampNeg ∧ (nI 1 <<< (nI c &&& 31)).toNatClampNeg < 32 ∧ ∀ d, d < 5 → sbv (nI 1 <<< (nI c &&& 31)) d = if d = c then nI 1 else 0 := by decide +kernel
theorem bit_off : ∀ v, v < 32 → ∀ c, c < 5 → (nI v &&& (-1 - (nI 1 <<< (nI c &&& 31)))) = nI (nI v &&& (-1 - (nI 1 <<< (nI c &&& 31)))).toNatClampNeg ∧ (nI v &&& (-1 - (nI 1 <<< (nI c &&& 31)))).toNatClampNeg < 32 ∧ ∀ d, d < 5 → sbv (nI v &&& (-1 - (nI 1 <<< (nI c &&& 31)))) d = if d = c then 0 else sbv (nI v) d := by decide +kernel
theorem bit_on : ∀ v, v < 32 → ∀ c, c < 5 → (nI v ||| (nI 1 <<< (nI c &&& 31))) = nI (nI v ||| (nI 1 <<< (nI c &&& 31))).toNatClampNeg ∧ (nI v ||| (nI 1 <<< (nI c &&& 31))).toNatClampNeg < 32 ∧ ∀ d, d < 5 → sbv (nI v ||| (nI 1 <<< (nI c &&& 31))) d = if d = c then nI 1 else sbv (nI v) d := by decide +kernel
theorem v_island (hI : iv μ ν nc nr ni rf rt) {c : Nat} {x y : Int32} (hc : c < nc) (h4 : ni < 4) : iv (zu (zu (zu (zu (zu μ 22 ni x) 23 ni y) 24 ni (nI c)) 21 3 (nI (ni + 1))) (39 + 7 * c) ni (nI 1)) (zu ν 5 ni (nI 1 <<< (nI c &&& 31))) nc nr (ni + 1) rf rt := by
  obtain ⟨⟨⟨hnc, hn5⟩, -, ⟨hni, hn4⟩⟩, -, -, hY, hB, hK, hA⟩ := id hI
  have o : ∀ k j, (k < 21 ∨ 24 < k) → ¬ (k = 39 + 7 * c ∧ j = ni) → (zu (zu (zu (zu (zu μ 22 ni x) 23 ni y) 24 ni (nI c)) 21 3 (nI (ni + 1))) (39 + 7 * c) ni (nI 1)) k j = μ k j := fun k j hk hj => by
    by_cases e : k = 39 + 7 * c
    · rw [zu_o2 (fun z => hj ⟨e, z⟩), zu_o (by omega), zu_o (by omega), zu_o (by omega), zu_o (by omega)]
    · rw [zu_o e, zu_o (by omega), zu_o (by omega), zu_o (by omega), zu_o (by omega)]
  have o2 : ∀ a, a ≠ 5 → (zu ν 5 ni (nI 1 <<< (nI c &&& 31))) a = ν a := fun a ha => zu_r ha
  have of : ∀ k, (k < 21 ∨ 24 < k) → k ≠ 39 + 7 * c → (zu (zu (zu (zu (zu μ 22 ni x) 23 ni y) 24 ni (nI c)) 21 3 (nI (ni + 1))) (39 + 7 * c) ni (nI 1)) k = μ k := fun k hk hj => funext fun j => o k j hk (fun z => hj z.1)
  refine iv_mk hI (fun k h1 h2 => of k (by omega) (by omega)) (o2 4 (by omega)) (o2 9 (by omega)) (by rw [of 1 (by omega) (by omega)]; exact hnc) (by rw [zu_o (by omega), zu_s]) hn5 h4 (jY (fun k h1 h2 => of k (by omega) (by omega)) (o2 7 (by omega)) (o2 8 (by omega)) hY) ⟨fun k hk => ?_, fun d hd i hi => ?_⟩ (jK (fun k h1 h2 h3 => of k (by omega) (fun z => h3 c (by omega) z)) hn5 (o2 0 (by omega)) (o2 1 (by omega)) (o2 2 (by omega)) (o2 3 (by omega)) (o2 6 (by omega)) hK) (jA hn5 (fun d hd => of _ (by omega) (by omega)) hA)
  · by_cases e : k = ni
    · subst e
      obtain ⟨b1, b2, b3⟩ := bit_1 c (by omega)
      refine ⟨_, b2, by rw [zu_s]; exact b1, fun d hd => ?_⟩
      rw [zu_s, b3 d hd]
      by_cases e2 : d = c
      · subst e2
        rw [if_pos rfl, zu_s]
      · rw [if_neg e2, o _ _ (by omega) (by omega)]
        exact ((hB.2 d (by omega) k (by omega)).2 (Or.inr (Nat.le_refl _))).symm
    · obtain ⟨v, h1, h2, h3⟩ := hB.1 k hk
      refine ⟨v, h1, by rw [zu_o2 e]; exact h2, fun d hd => ?_⟩
      rw [zu_o2 e, o _ _ (by omega) (fun z => e z.2)]
      exact h3 d hd
  · by_cases e : d = c ∧ i = ni
    · obtain ⟨rfl, rfl⟩ := e
      rw [zu_s]
      exact ⟨Or.inr rfl, fun q => by omega⟩
    · rw [o _ _ (by omega) (fun z => e ⟨by omega, z.2⟩)]
      exact ⟨(hB.2 d hd i hi).1, fun q => (hB.2 d hd i hi).2 (by omega)⟩
theorem v_paint (hI : iv μ ν nc nr ni rf rt) {c k : Nat} (hc : c < nc) (hk : k < ni) : iv (zu μ (39 + 7 * c) k (nI 0)) (zu ν 5 k (ν 5 k &&& (-1 - (nI 1 <<< (nI c &&& 31))))) nc nr ni rf rt := by
  obtain ⟨⟨⟨hnc, hn5⟩, -, ⟨hni, hn4⟩⟩, -, -, hY, hB, hK, hA⟩ := id hI
  have o : ∀ q j, ¬ (q = 39 + 7 * c ∧ j = k) → (zu μ (39 + 7 * c) k (nI 0)) q j = μ q j := fun q j hj => by
    by_cases e : q = 39 + 7 * c
    · rw [zu_o2 (fun z => hj ⟨e, z⟩)]
    · rw [zu_o e]
  have of : ∀ q, q ≠ 39 + 7 * c → (zu μ (39 + 7 * c) k (nI 0)) q = μ q := fun q hq => zu_r hq
  have o2 : ∀ a, a ≠ 5 → (zu ν 5 k (ν 5 k &&& (-1 - (nI 1 <<< (nI c &&& 31))))) a = ν a := fun a ha => zu_r ha
  refine iv_mk hI (fun q h1 h2 => of q (by omega)) (o2 4 (by omega)) (o2 9 (by omega)) (by rw [of 1 (by omega)]; exact hnc) (by rw [of 21 (by omega)]; exact hni) hn5 hn4 (jY (fun q h1 h2 => of q (by omega)) (o2 7 (by omega)) (o2 8 (by omega)) hY) ⟨fun i hi => ?_, fun d hd i hi => ?_⟩ (jK (fun q h1 h2 h3 => of q (fun z => h3 c (by omega) z)) hn5 (o2 0 (by omega)) (o2 1 (by omega)) (o2 2 (by omega)) (o2 3 (by omega)) (o2 6 (by omega)) hK) (jA hn5 (fun d hd => of _ (by omega)) hA)
  · obtain ⟨v, h1, h2, h3⟩ := hB.1 i hi
    by_cases e : i = k
    · subst e
      obtain ⟨b1, b2, b3⟩ := bit_off v h1 c (by omega)
      refine ⟨_, b2, by rw [zu_s, h2]; exact b1, fun d hd => ?_⟩
      rw [zu_s, h2, b3 d hd]
      by_cases e2 : d = c
      · subst e2
        rw [if_pos rfl, zu_s]
        rfl
      · rw [if_neg e2, o _ _ (by omega), ← h2]
        exact h3 d hd
    · refine ⟨v, h1, by rw [zu_o2 e]; exact h2, fun d hd => ?_⟩
      rw [zu_o2 e, o _ _ (fun z => e z.2)]
      exact h3 d hd
  · by_cases e : d = c ∧ i = k
    · obtain ⟨rfl, rfl⟩ := e
      rw [zu_s]
      exact ⟨Or.inl rfl, fun q => rfl⟩
    · rw [o _ _ (fun z => e ⟨by omega, z.2⟩)]
      exact hB.2 d hd i hi
theorem lose_1 {c p : Nat} : zit (clo c) p (p + 1 - p) μ = zput μ c p 100000 100000 (-1) := by
  rw [show p + 1 - p = 1 by omega]
  rfl
theorem lose_k {c p : Nat} (h : zkn μ c p) : zit (ckn μ c) p (p + 1 - p) (nI 0) = nI 1 := by
  rw [show p + 1 - p = 1 by omega, zit_s, Nat.add_zero, ckn, if_pos h]
  rfl
theorem lose_u {c p : Nat} (h : ¬ zkn μ c p) : zit (ckn μ c) p (p + 1 - p) (nI 0) = nI 0 := by
  rw [show p + 1 - p = 1 by omega, zit_s, Nat.add_zero, ckn, if_neg h]
  rfl
theorem v_lose (hI : iv μ ν nc nr ni rf rt) {c p : Nat} (hc : c < nc) (hp : p < 10) : iv (zput μ c p 100000 100000 (-1)) (zu ν 3 (10 * c + p) (-2)) nc nr ni rf rt := by
  obtain ⟨⟨⟨hnc, hn5⟩, -, -⟩, -, -, -, -, hK, hA⟩ := id hI
  have hP := (hK c hc).2.2.1
  refine iv_row hc (fun k j hk => ?_) (fun b j hj => ?_) (fun i hi => ?_) (fun i h1 h2 => ?_) (jA_s (fun d hd i hi => ?_) hA) hI
  · rw [zput_n (by omega)]
  · by_cases e : b = 3
    · rw [zu_o2 (by omega)]
    · rw [zu_o e]
  · have h9 := hP i hi
    by_cases e : i = p
    · subst e
      unfold iP at h9 ⊢
      rw [zput_x, zput_y, zput_z, zput_n (by omega), zu_o (show 2 ≠ 3 by decide), zu_s]
      exact ⟨h9.1, Or.inl ⟨rfl, rfl, rfl, rfl⟩⟩
    · exact iP_v (Nat.le_refl _) (zput_n (fun z => e z.2)) (zput_n (fun z => e z.2)) (zput_n (fun z => e z.2)) (zput_n (fun z => e z.2)) (fun b hb => zu_o2 (by omega)) h9
  · have h9 := (hK c hc).2.2.2 i h1 h2
    unfold iO at h9 ⊢
    rw [zput_n (by omega), zput_n (by omega), zput_n (by omega), zput_n (by omega)]
    exact h9
  · by_cases e : d = c ∧ i = p
    · obtain ⟨rfl, rfl⟩ := e
      exact Or.inr zput_z
    · exact Or.inl (zput_n (fun z => e ⟨by omega, z.2⟩))
end ZOPS
