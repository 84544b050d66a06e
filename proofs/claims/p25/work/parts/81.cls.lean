/-! what the class writes in copy, paste and chart (out of whole's own parts) -/
theorem zkn_c {μ ν : zMu} {c d p : Nat} (e : μ (34 + 7 * c) p = ν (34 + 7 * d) p) : zkn μ c p ↔ zkn ν d p := by unfold zkn; rw [e]
/-! copy: what is written -/
section CP
variable {c d k i : Nat} {nm : Nat → Nat} {way : Int32} {ν : zMu}
theorem ccpn_n {q : Nat} (h : q ≠ 36 + 7 * d) {j : Nat} : ccpn d k nm i ν q j = ν q j := by unfold ccpn; exact zu_o h
theorem ccp_0 : ccp c d k nm way i ν (36 + 7 * d) i = ν (26 + 2 * k) (nm i) := by
  unfold ccp
  split
  · rw [zput_n (fun q => by have := q.1; omega), ccpn, zu_s]
  · rw [zput_n (fun q => by have := q.1; omega), ccpn, zu_s]
theorem ccp_1 (hcd : c ≠ d) (hk : k < 4) : ccp c d k nm way i ν (34 + 7 * d) i = if zkn ν c i then zdraw (ν (34 + 7 * c) i) way (ν (25 + 2 * k) 0) else 100000 := by
  unfold ccp
  have hkn : zkn (ccpn d k nm i ν) c i ↔ zkn ν c i := zkn_c (ccpn_n (by omega))
  by_cases h : zkn ν c i
  · rw [if_pos h, if_pos (hkn.mpr h), zput_x, ccpn_n (by omega), ccpn_n (by omega)]
  · rw [if_neg h, if_neg (fun q => h (hkn.mp q)), zput_x]
theorem ccp_2 (hcd : c ≠ d) (hk : k < 4) : ccp c d k nm way i ν (35 + 7 * d) i = if zkn ν c i then zdraw (ν (35 + 7 * c) i) way (-ν (25 + 2 * k) 0) else 100000 := by
  unfold ccp
  have hkn : zkn (ccpn d k nm i ν) c i ↔ zkn ν c i := zkn_c (ccpn_n (by omega))
  by_cases h : zkn ν c i
  · rw [if_pos h, if_pos (hkn.mpr h), zput_y, ccpn_n (by omega), ccpn_n (by omega)]
  · rw [if_neg h, if_neg (fun q => h (hkn.mp q)), zput_y]
theorem ccp_3 (hcd : c ≠ d) : ccp c d k nm way i ν (37 + 7 * d) i = if zkn ν c i then nI c else -1 := by
  unfold ccp
  have hkn : zkn (ccpn d k nm i ν) c i ↔ zkn ν c i := zkn_c (ccpn_n (by omega))
  by_cases h : zkn ν c i
  · rw [if_pos h, if_pos (hkn.mpr h), zput_z]
  · rw [if_neg h, if_neg (fun q => h (hkn.mp q)), zput_z]
theorem ccp_n {q j : Nat} (hh : ¬ ((q = 34 + 7 * d ∨ q = 35 + 7 * d ∨ q = 36 + 7 * d ∨ q = 37 + 7 * d) ∧ j = i)) : ccp c d k nm way i ν q j = ν q j := by
  have h9 : ccpn d k nm i ν q j = ν q j := by
    unfold ccpn
    by_cases e : j = i
    · exact zu_o (fun q => hh ⟨Or.inr (Or.inr (Or.inl q)), e⟩)
    · exact zu_o2 e
  have h8 : ¬ ((q = 34 + 7 * d ∨ q = 35 + 7 * d ∨ q = 37 + 7 * d) ∧ j = i) := fun q => hh ⟨by have := q.1; omega, q.2⟩
  unfold ccp
  split
  · rw [zput_n h8, h9]
  · rw [zput_n h8, h9]
end CP
theorem ccp_f {c d k : Nat} {nm : Nat → Nat} {way : Int32} (hcd : c ≠ d) (hk4 : k < 4) (μ : zMu) : (∀ p, p < 24 → zit (ccp c d k nm way) 0 24 μ (36 + 7 * d) p = μ (26 + 2 * k) (nm p) ∧ zit (ccp c d k nm way) 0 24 μ (34 + 7 * d) p = (if zkn μ c p then zdraw (μ (34 + 7 * c) p) way (μ (25 + 2 * k) 0) else 100000) ∧
      zit (ccp c d k nm way) 0 24 μ (35 + 7 * d) p = (if zkn μ c p then zdraw (μ (35 + 7 * c) p) way (-μ (25 + 2 * k) 0) else 100000) ∧ zit (ccp c d k nm way) 0 24 μ (37 + 7 * d) p = (if zkn μ c p then nI c else -1)) ∧
    ∀ q j, ¬ ((q = 34 + 7 * d ∨ q = 35 + 7 * d ∨ q = 36 + 7 * d ∨ q = 37 + 7 * d) ∧ j < 24) → zit (ccp c d k nm way) 0 24 μ q j = μ q j := by
  have h := zit_p0 (f := ccp c d k nm way) (a := 0) (N := 24) (S := fun q => q = 34 + 7 * d ∨ q = 35 + 7 * d ∨ q = 36 + 7 * d ∨ q = 37 + 7 * d) (fun i ν q j hh => ccp_n hh) (fun i ν ν' _ _ hag q hq => by
    have e34 : ν (34 + 7 * c) i = ν' (34 + 7 * c) i := hag _ _ (fun _ => Or.inl rfl)
    have e35 : ν (35 + 7 * c) i = ν' (35 + 7 * c) i := hag _ _ (fun _ => Or.inl rfl)
    have e26 : ν (26 + 2 * k) (nm i) = ν' (26 + 2 * k) (nm i) := hag _ _ (fun s => absurd (show 26 + 2 * k = 34 + 7 * d ∨ 26 + 2 * k = 35 + 7 * d ∨ 26 + 2 * k = 36 + 7 * d ∨ 26 + 2 * k = 37 + 7 * d from s) (by omega))
    have e25 : ν (25 + 2 * k) 0 = ν' (25 + 2 * k) 0 := hag _ _ (fun s => absurd (show 25 + 2 * k = 34 + 7 * d ∨ 25 + 2 * k = 35 + 7 * d ∨ 25 + 2 * k = 36 + 7 * d ∨ 25 + 2 * k = 37 + 7 * d from s) (by omega))
    rcases hq with rfl | rfl | rfl | rfl
    · exact (ccp_1 hcd hk4).trans ((zifc (zkn_c e34) (by rw [e34, e25]) rfl).trans (ccp_1 hcd hk4).symm)
    · exact (ccp_2 hcd hk4).trans ((zifc (zkn_c e34) (by rw [e35, e25]) rfl).trans (ccp_2 hcd hk4).symm)
    · rw [ccp_0, ccp_0, e26]
    · exact (ccp_3 hcd).trans ((zifc (zkn_c e34) rfl rfl).trans (ccp_3 hcd).symm)) μ 24 (Nat.le_refl _)
  refine ⟨fun p h1 => ⟨?_, ?_, ?_, ?_⟩, fun q j hj => h.2 q j (fun s => hj ⟨s.1, by have := s.2.2; omega⟩)⟩
  · rw [h.1 (36 + 7 * d) p (Or.inr (Or.inr (Or.inl rfl))) (Nat.zero_le _) (by omega), ccp_0]
  · rw [h.1 (34 + 7 * d) p (Or.inl rfl) (Nat.zero_le _) (by omega), ccp_1 hcd hk4]
  · rw [h.1 (35 + 7 * d) p (Or.inr (Or.inl rfl)) (Nat.zero_le _) (by omega), ccp_2 hcd hk4]
  · rw [h.1 (37 + 7 * d) p (Or.inr (Or.inr (Or.inr rfl))) (Nat.zero_le _) (by omega), ccp_3 hcd]
/-- a row of numbers is taken over -/
theorem zrow_f {A B q n r : Nat} {f : Nat → zMu → zMu} (hf : ∀ i ν, f i ν = zu ν A (q + i) (ν B (r + i))) (hAB : A ≠ B ∨ ∀ i j, i < n → j < n → r + i ≠ q + j) (μ : zMu) : (∀ i, i < n → zit f 0 n μ A (q + i) = μ B (r + i)) ∧ ∀ k j, ¬ (k = A ∧ q ≤ j ∧ j < q + n) → zit f 0 n μ k j = μ k j := by
  have h := zit_pt (f := f) (a := 0) (N := n) (q := q) (S := fun k => k = A) (fun i ν k j hh => by
    rw [hf]
    by_cases e : k = A
    · exact zu_o2 (fun s => hh ⟨e, s⟩)
    · exact zu_o e) (fun i ν ν' _ hi hag k hk => by
    have hk9 : k = A := hk
    subst hk9
    rw [hf, hf, zu_s, zu_s]
    refine hag B (r + i) (fun s => ?_)
    have s9 : B = k := s
    rcases hAB with hne | hne
    · exact absurd s9.symm hne
    · refine Or.inr (fun w => ?_)
      exact hne i (r + i - q) (by omega) (by omega) (by omega)) μ n (Nat.le_refl _)
  refine ⟨fun i hi => ?_, fun k j hj => h.2 k j (fun s => hj ⟨s.1, by have := s.2; omega⟩)⟩
  rw [h.1 A i rfl (Nat.zero_le _) (by omega), hf, zu_s]
theorem ccopy_f {c d k : Nat} {nm : Nat → Nat} {way y : Int32} (hcd : c ≠ d) (hk4 : k < 4) (μ : zMu) : (∀ p, p < 24 → ccopy c d k nm way y μ (36 + 7 * d) p = μ (26 + 2 * k) (nm p) ∧ ccopy c d k nm way y μ (34 + 7 * d) p = (if zkn μ c p then zdraw (μ (34 + 7 * c) p) way (μ (25 + 2 * k) 0) else 100000) ∧
      ccopy c d k nm way y μ (35 + 7 * d) p = (if zkn μ c p then zdraw (μ (35 + 7 * c) p) way (-μ (25 + 2 * k) 0) else 100000) ∧ ccopy c d k nm way y μ (37 + 7 * d) p = (if zkn μ c p then nI c else -1)) ∧
    ccopy c d k nm way y μ (33 + 7 * d) 0 = y ∧ (∀ b, b < 3 → ccopy c d k nm way y μ (38 + 7 * d) b = μ (38 + 7 * c) b) ∧ (∀ i, i < 20 → ccopy c d k nm way y μ (39 + 7 * d) i = μ (39 + 7 * c) i) ∧ ccopy c d k nm way y μ 1 7 = nI (d + 1) ∧
    ∀ q j, ¬ (q = 1 ∧ j = 7) → (q < 33 + 7 * d ∨ 39 + 7 * d < q) → ccopy c d k nm way y μ q j = μ q j := by
  unfold ccopy
  obtain ⟨A, hA⟩ : ∃ A, A = zu μ (33 + 7 * d) 0 y := ⟨_, rfl⟩
  have fA : ∀ q j, q ≠ 33 + 7 * d → A q j = μ q j := fun q j h => by rw [hA, zu_o h]
  have fB := ccp_f (nm := nm) (way := way) hcd hk4 A
  have gB : ∀ q j, (q < 34 + 7 * d ∨ 37 + 7 * d < q) → zit (ccp c d k nm way) 0 24 A q j = A q j := fun q j h => fB.2 q j (fun s => by have := s.1; omega)
  have fC := zrow_f (A := 38 + 7 * d) (B := 38 + 7 * c) (q := 0) (r := 0) (n := 3) (f := cfr1 d c) (fun i ν => by rw [cfr1, Nat.zero_add]) (Or.inl (by omega)) (zit (ccp c d k nm way) 0 24 A)
  have fD := zrow_f (A := 39 + 7 * d) (B := 39 + 7 * c) (q := 0) (r := 0) (n := 20) (f := cfr2 d c) (fun i ν => by rw [cfr2, Nat.zero_add]) (Or.inl (by omega)) (zit (cfr1 d c) 0 3 (zit (ccp c d k nm way) 0 24 A))
  rw [← hA]
  have gC : ∀ q j, q ≠ 38 + 7 * d → zit (cfr1 d c) 0 3 (zit (ccp c d k nm way) 0 24 A) q j = zit (ccp c d k nm way) 0 24 A q j := fun q j h => fC.2 q j (fun s => h s.1)
  have gD : ∀ q j, q ≠ 39 + 7 * d → zit (cfr2 d c) 0 20 (zit (cfr1 d c) 0 3 (zit (ccp c d k nm way) 0 24 A)) q j = zit (cfr1 d c) 0 3 (zit (ccp c d k nm way) 0 24 A) q j := fun q j h => fD.2 q j (fun s => h s.1)
  have kA : ∀ p, zkn A c p ↔ zkn μ c p := fun p => zkn_c (fA _ _ (by omega))
  refine ⟨fun p hp => ?_, ?_, fun b hb => ?_, fun i hi => ?_, zu_s, fun q j h1 h2 => ?_⟩
  · obtain ⟨b1, b2, b3, b4⟩ := fB.1 p hp
    refine ⟨?_, ?_, ?_, ?_⟩
    · rw [zu_o (by omega), gD _ _ (by omega), gC _ _ (by omega), b1, fA _ _ (by omega)]
    · rw [zu_o (by omega), gD _ _ (by omega), gC _ _ (by omega), b2]
      exact zifc (kA p) (by rw [fA _ _ (by omega), fA _ _ (by omega)]) rfl
    · rw [zu_o (by omega), gD _ _ (by omega), gC _ _ (by omega), b3]
      exact zifc (kA p) (by rw [fA _ _ (by omega), fA _ _ (by omega)]) rfl
    · rw [zu_o (by omega), gD _ _ (by omega), gC _ _ (by omega), b4]
      exact zifc (kA p) rfl rfl
  · rw [zu_o (by omega), gD _ _ (by omega), gC _ _ (by omega), gB _ _ (by omega), hA, zu_s]
  · have h := fC.1 b hb
    rw [Nat.zero_add] at h
    rw [zu_o (by omega), gD _ _ (by omega), h, gB _ _ (by omega), fA _ _ (by omega)]
  · have h := fD.1 i hi
    rw [Nat.zero_add] at h
    rw [zu_o (by omega), h, gC _ _ (by omega), gB _ _ (by omega), fA _ _ (by omega)]
  · have e : zu (zit (cfr2 d c) 0 20 (zit (cfr1 d c) 0 3 (zit (ccp c d k nm way) 0 24 A))) 1 7 (nI (d + 1)) q j = zit (cfr2 d c) 0 20 (zit (cfr1 d c) 0 3 (zit (ccp c d k nm way) 0 24 A)) q j := by
      by_cases e1 : q = 1
      · exact zu_o2 (fun s => h1 ⟨e1, s⟩)
      · exact zu_o e1
    rw [e, gD _ _ (by omega), gC _ _ (by omega), gB _ _ (by omega), fA _ _ (by omega)]
/-! paste: what is written -/
section PA
variable {a b i : Nat} {x y : Int32} {ν : zMu}
theorem cpan_n {k : Nat} (h : k ≠ 36 + 7 * a) {j : Nat} : cpan a b i ν k j = ν k j := by unfold cpan; exact zu_o h
theorem cpa_0 : cpa a b x y i ν (36 + 7 * a) i = ν (36 + 7 * b) i := by
  unfold cpa
  split
  · rw [zput_n (fun q => by have := q.1; omega), cpan, zu_s]
  · rw [zput_n (fun q => by have := q.1; omega), cpan, zu_s]
theorem cpa_1 (hab : a ≠ b) : cpa a b x y i ν (34 + 7 * a) i = if zkn ν b i then ν (34 + 7 * b) i + x else 100000 := by
  unfold cpa
  have hk : zkn (cpan a b i ν) b i ↔ zkn ν b i := zkn_c (cpan_n (by omega))
  by_cases h : zkn ν b i
  · rw [if_pos h, if_pos (hk.mpr h), zput_x, cpan_n (by omega)]
  · rw [if_neg h, if_neg (fun q => h (hk.mp q)), zput_x]
theorem cpa_2 (hab : a ≠ b) : cpa a b x y i ν (35 + 7 * a) i = if zkn ν b i then ν (35 + 7 * b) i + y else 100000 := by
  unfold cpa
  have hk : zkn (cpan a b i ν) b i ↔ zkn ν b i := zkn_c (cpan_n (by omega))
  by_cases h : zkn ν b i
  · rw [if_pos h, if_pos (hk.mpr h), zput_y, cpan_n (by omega)]
  · rw [if_neg h, if_neg (fun q => h (hk.mp q)), zput_y]
theorem cpa_3 (hab : a ≠ b) : cpa a b x y i ν (37 + 7 * a) i = if zkn ν b i then nI b else -1 := by
  unfold cpa
  have hk : zkn (cpan a b i ν) b i ↔ zkn ν b i := zkn_c (cpan_n (by omega))
  by_cases h : zkn ν b i
  · rw [if_pos h, if_pos (hk.mpr h), zput_z]
  · rw [if_neg h, if_neg (fun q => h (hk.mp q)), zput_z]
theorem cpa_n {k j : Nat} (hh : ¬ ((k = 34 + 7 * a ∨ k = 35 + 7 * a ∨ k = 36 + 7 * a ∨ k = 37 + 7 * a) ∧ j = i)) : cpa a b x y i ν k j = ν k j := by
  have h9 : cpan a b i ν k j = ν k j := by
    unfold cpan
    by_cases e : j = i
    · exact zu_o (fun q => hh ⟨Or.inr (Or.inr (Or.inl q)), e⟩)
    · exact zu_o2 e
  have h8 : ¬ ((k = 34 + 7 * a ∨ k = 35 + 7 * a ∨ k = 37 + 7 * a) ∧ j = i) := fun q => hh ⟨by have := q.1; omega, q.2⟩
  unfold cpa
  split
  · rw [zput_n h8, h9]
  · rw [zput_n h8, h9]
end PA
theorem cpa_f {a b f n : Nat} {x y : Int32} (hab : a ≠ b) (μ : zMu) : (∀ p, f ≤ p → p < f + n → zit (cpa a b x y) f n μ (36 + 7 * a) p = μ (36 + 7 * b) p ∧ zit (cpa a b x y) f n μ (34 + 7 * a) p = (if zkn μ b p then μ (34 + 7 * b) p + x else 100000) ∧
      zit (cpa a b x y) f n μ (35 + 7 * a) p = (if zkn μ b p then μ (35 + 7 * b) p + y else 100000) ∧ zit (cpa a b x y) f n μ (37 + 7 * a) p = (if zkn μ b p then nI b else -1)) ∧
    ∀ k j, ¬ ((k = 34 + 7 * a ∨ k = 35 + 7 * a ∨ k = 36 + 7 * a ∨ k = 37 + 7 * a) ∧ f ≤ j ∧ j < f + n) → zit (cpa a b x y) f n μ k j = μ k j := by
  have h := zit_p0 (f := cpa a b x y) (a := f) (N := n) (S := fun k => k = 34 + 7 * a ∨ k = 35 + 7 * a ∨ k = 36 + 7 * a ∨ k = 37 + 7 * a) (fun i ν k j hh => cpa_n hh) (fun i ν ν' _ _ hag k hk => by
    have e34 : ν (34 + 7 * b) i = ν' (34 + 7 * b) i := hag _ _ (fun _ => Or.inl rfl)
    have e35 : ν (35 + 7 * b) i = ν' (35 + 7 * b) i := hag _ _ (fun _ => Or.inl rfl)
    have e36 : ν (36 + 7 * b) i = ν' (36 + 7 * b) i := hag _ _ (fun _ => Or.inl rfl)
    rcases hk with rfl | rfl | rfl | rfl
    · exact (cpa_1 hab).trans ((zifc (zkn_c e34) (by rw [e34]) rfl).trans (cpa_1 hab).symm)
    · exact (cpa_2 hab).trans ((zifc (zkn_c e34) (by rw [e35]) rfl).trans (cpa_2 hab).symm)
    · rw [cpa_0, cpa_0, e36]
    · exact (cpa_3 hab).trans ((zifc (zkn_c e34) rfl rfl).trans (cpa_3 hab).symm)) μ n (Nat.le_refl _)
  refine ⟨fun p h1 h2 => ⟨?_, ?_, ?_, ?_⟩, fun k j hj => h.2 k j hj⟩
  · rw [h.1 (36 + 7 * a) p (Or.inr (Or.inr (Or.inl rfl))) h1 h2, cpa_0]
  · rw [h.1 (34 + 7 * a) p (Or.inl rfl) h1 h2, cpa_1 hab]
  · rw [h.1 (35 + 7 * a) p (Or.inr (Or.inl rfl)) h1 h2, cpa_2 hab]
  · rw [h.1 (37 + 7 * a) p (Or.inr (Or.inr (Or.inr rfl))) h1 h2, cpa_3 hab]
theorem cbeg_f (σ : zMu) : ∀ p, p < 24 → zit cbeg 0 24 σ 16 p = nI 0 ∧ zit cbeg 0 24 σ 17 p = nI 0 ∧ zit cbeg 0 24 σ 18 p = nI 0 := by
  have h := zit_p0 (f := cbeg) (a := 0) (N := 24) (S := fun k => k = 16 ∨ k = 17 ∨ k = 18) (fun i ν k j hh => by
    unfold cbeg
    by_cases e : j = i
    · rw [zu_o (fun q => hh ⟨Or.inr (Or.inr q), e⟩), zu_o (fun q => hh ⟨Or.inr (Or.inl q), e⟩), zu_o (fun q => hh ⟨Or.inl q, e⟩)]
    · rw [zu_o2 e, zu_o2 e, zu_o2 e]) (fun i ν ν' _ _ _ k hk => by
    unfold cbeg
    rcases hk with rfl | rfl | rfl
    · rw [zu_o (by omega), zu_o (by omega), zu_s, zu_o (by omega), zu_o (by omega), zu_s]
    · rw [zu_o (by omega), zu_s, zu_o (by omega), zu_s]
    · rw [zu_s, zu_s]) σ 24 (Nat.le_refl _)
  intro p hp
  refine ⟨?_, ?_, ?_⟩
  · rw [h.1 16 p (Or.inl rfl) (Nat.zero_le _) (by omega), cbeg, zu_o (by omega), zu_o (by omega), zu_s]
  · rw [h.1 17 p (Or.inr (Or.inl rfl)) (Nat.zero_le _) (by omega), cbeg, zu_o (by omega), zu_s]
  · rw [h.1 18 p (Or.inr (Or.inr rfl)) (Nat.zero_le _) (by omega), cbeg, zu_s]
def cset1 (c i : Nat) (ν : zMu) : zMu := if ν 18 i ≤ 0 then ν else zput ν c i (ν 16 i / ν 18 i) (ν 17 i / ν 18 i) (-1)
noncomputable def zfl1 (g : Nat → Int32) (n : Nat) : Int32 := @ite Int32 (∀ i, i < n → g i ≤ 0) (Classical.propDecidable _) (nI 0) (nI 1)
theorem zfl1_0 {g : Nat → Int32} {n : Nat} (h : ∀ i, i < n → g i ≤ 0) : zfl1 g n = nI 0 := by unfold zfl1; exact if_pos h
theorem zfl1_1 {g : Nat → Int32} {n : Nat} (h : ¬ ∀ i, i < n → g i ≤ 0) : zfl1 g n = nI 1 := by unfold zfl1; exact if_neg h
theorem zfl1_s {g : Nat → Int32} {n : Nat} : zfl1 g (n + 1) = @ite Int32 (g n ≤ 0) (Classical.propDecidable _) (zfl1 g n) (nI 1) := by
  by_cases h : g n ≤ 0
  · rw [if_pos h]
    by_cases h9 : ∀ i, i < n → g i ≤ 0
    · rw [zfl1_0 h9, zfl1_0 (fun i hi => by
        by_cases e : i = n
        · rw [e]; exact h
        · exact h9 i (by omega))]
    · rw [zfl1_1 h9, zfl1_1 (fun q => h9 (fun i hi => q i (by omega)))]
  · rw [if_neg h, zfl1_1 (fun q => h (q n (by omega)))]
theorem zfl1_c {g g' : Nat → Int32} {n : Nat} (h : ∀ i, i < n → g i = g' i) : zfl1 g n = zfl1 g' n := by
  by_cases h9 : ∀ i, i < n → g i ≤ 0
  · rw [zfl1_0 h9, zfl1_0 (fun i hi => by rw [← h i hi]; exact h9 i hi)]
  · rw [zfl1_1 h9, zfl1_1 (fun q => h9 (fun i hi => by rw [h i hi]; exact q i hi))]
theorem cset1_o {c k : Nat} (h : k ≠ 34 + 7 * c ∧ k ≠ 35 + 7 * c ∧ k ≠ 37 + 7 * c) (i : Nat) (ν : zMu) : cset1 c i ν k = ν k := by
  unfold cset1
  split
  · rfl
  · exact zput_o h
theorem cset_1 {c n : Nat} {s : Int32} {ν : zMu} : cset c n (s, ν) = (if ν 18 n ≤ 0 then s else nI 1, cset1 c n ν) := by
  unfold cset cset1
  by_cases h : ν 18 n ≤ 0
  · exact (if_pos h).trans (Prod.ext (if_pos h).symm (if_pos h).symm)
  · exact (if_neg h).trans (Prod.ext (if_neg h).symm (if_neg h).symm)
theorem cset_eq {c : Nat} (σ : zMu) : ∀ n, zit (cset c) 0 n (nI 0, σ) = (zfl1 (σ 18) n, zit (cset1 c) 0 n σ)
  | 0 => by
    have h : zfl1 (σ 18) 0 = nI 0 := zfl1_0 (fun i hi => absurd hi (Nat.not_lt_zero i))
    rw [h]
    rfl
  | n + 1 => by
    have e : zit (cset1 c) 0 n σ 18 = σ 18 := zit_keep (cset1_o (by omega)) σ n
    rw [zit_s, zit_s, cset_eq σ n, Nat.zero_add, zfl1_s]
    rw [cset_1]
    exact Prod.ext (zifc (by rw [e]) rfl rfl) rfl
theorem cset1_f {c : Nat} (σ : zMu) : (∀ p, p < 24 → (σ 18 p ≤ 0 → zit (cset1 c) 0 24 σ (34 + 7 * c) p = σ (34 + 7 * c) p ∧ zit (cset1 c) 0 24 σ (35 + 7 * c) p = σ (35 + 7 * c) p ∧ zit (cset1 c) 0 24 σ (37 + 7 * c) p = σ (37 + 7 * c) p) ∧
      (¬ σ 18 p ≤ 0 → zit (cset1 c) 0 24 σ (34 + 7 * c) p = σ 16 p / σ 18 p ∧ zit (cset1 c) 0 24 σ (35 + 7 * c) p = σ 17 p / σ 18 p ∧ zit (cset1 c) 0 24 σ (37 + 7 * c) p = -1)) := by
  have h := zit_p0 (f := cset1 c) (a := 0) (N := 24) (S := fun k => k = 34 + 7 * c ∨ k = 35 + 7 * c ∨ k = 37 + 7 * c) (fun i ν k j hh => by
    unfold cset1
    split
    · rfl
    · exact zput_n hh) (fun i ν ν' _ _ hag k hk => by
    have e34 : ν (34 + 7 * c) i = ν' (34 + 7 * c) i := hag _ _ (fun _ => Or.inl rfl)
    have e35 : ν (35 + 7 * c) i = ν' (35 + 7 * c) i := hag _ _ (fun _ => Or.inl rfl)
    have e37 : ν (37 + 7 * c) i = ν' (37 + 7 * c) i := hag _ _ (fun _ => Or.inl rfl)
    have e16 : ν 16 i = ν' 16 i := hag _ _ (fun _ => Or.inl rfl)
    have e17 : ν 17 i = ν' 17 i := hag _ _ (fun _ => Or.inl rfl)
    have e18 : ν 18 i = ν' 18 i := hag _ _ (fun _ => Or.inl rfl)
    unfold cset1
    by_cases h0 : ν' 18 i ≤ 0
    · have h1 : ν 18 i ≤ 0 := by rw [e18]; exact h0
      rw [if_pos h0, if_pos h1]
      rcases hk with rfl | rfl | rfl
      · exact e34
      · exact e35
      · exact e37
    · have h1 : ¬ ν 18 i ≤ 0 := by rw [e18]; exact h0
      rw [if_neg h0, if_neg h1, e16, e17, e18]
      rcases hk with rfl | rfl | rfl
      · rw [zput_x, zput_x]
      · rw [zput_y, zput_y]
      · rw [zput_z, zput_z]) σ 24 (Nat.le_refl _)
  intro p hp
  have h1 := h.1 (34 + 7 * c) p (Or.inl rfl) (Nat.zero_le _) (by omega)
  have h2 := h.1 (35 + 7 * c) p (Or.inr (Or.inl rfl)) (Nat.zero_le _) (by omega)
  have h3 := h.1 (37 + 7 * c) p (Or.inr (Or.inr rfl)) (Nat.zero_le _) (by omega)
  rw [h1, h2, h3]
  unfold cset1
  refine ⟨fun q => ?_, fun q => ?_⟩
  · rw [if_pos q]
    exact ⟨rfl, rfl, rfl⟩
  · rw [if_neg q, zput_x, zput_y, zput_z]
    exact ⟨rfl, rfl, rfl⟩
theorem zit_sh {α : Type} {f : Nat → α → α} (h : ∀ i j s, f i s = f j s) : ∀ (n : Nat) (s : α), zit f 0 (n + 1) s = zit f 0 n (f 0 s)
  | 0, s => rfl
  | n + 1, s => by rw [zit_s, zit_sh h n s, zit_s f 0 n (f 0 s), h (0 + (n + 1)) (0 + n)]
theorem clay_k {rf rt : Nat → Nat} {c r k : Nat} (h1 : k ≠ 16 ∧ k ≠ 17 ∧ k ≠ 18) (h2 : k ≠ 34 + 7 * c ∧ k ≠ 35 + 7 * c ∧ k ≠ 37 + 7 * c) : ∀ (n : Nat) (s : Int32 × zMu), (zit (clay rf rt c r) 0 n s).2 k = s.2 k
  | 0, _ => rfl
  | n + 1, s => by rw [zit_s, clay_o h1 h2, clay_k h1 h2 n s]
theorem cchp_f {c : Nat} (μ : zMu) : (∀ p, p < 24 → zit (cchp c) 0 24 μ (34 + 7 * c) p = 100000 ∧ zit (cchp c) 0 24 μ (35 + 7 * c) p = 100000 ∧ zit (cchp c) 0 24 μ (36 + 7 * c) p = μ 5 p ∧ zit (cchp c) 0 24 μ (37 + 7 * c) p = -1) ∧
    ∀ k j, (k < 34 + 7 * c ∨ 37 + 7 * c < k) → zit (cchp c) 0 24 μ k j = μ k j := by
  have h := zit_p0 (f := cchp c) (a := 0) (N := 24) (S := fun k => k = 34 + 7 * c ∨ k = 35 + 7 * c ∨ k = 36 + 7 * c ∨ k = 37 + 7 * c) (fun i ν k j hh => by
    have h8 : ¬ ((k = 34 + 7 * c ∨ k = 35 + 7 * c ∨ k = 37 + 7 * c) ∧ j = i) := fun q => hh ⟨(by have := q.1; omega : k = 34 + 7 * c ∨ k = 35 + 7 * c ∨ k = 36 + 7 * c ∨ k = 37 + 7 * c), q.2⟩
    unfold cchp
    by_cases e : j = i
    · rw [zu_o (fun q => hh ⟨Or.inr (Or.inr (Or.inl q)), e⟩), zput_n h8]
    · rw [zu_o2 e, zput_n h8]) (fun i ν ν' _ _ hag k hk => by
    have e5 : ν 5 i = ν' 5 i := hag _ _ (fun _ => Or.inl rfl)
    unfold cchp
    rcases hk with rfl | rfl | rfl | rfl
    · rw [zu_o (by omega), zput_x, zu_o (by omega), zput_x]
    · rw [zu_o (by omega), zput_y, zu_o (by omega), zput_y]
    · rw [zu_s, zu_s, zput_n (fun q => by have := q.1; omega), zput_n (fun q => by have := q.1; omega), e5]
    · rw [zu_o (by omega), zput_z, zu_o (by omega), zput_z]) μ 24 (Nat.le_refl _)
  refine ⟨fun p hp => ⟨?_, ?_, ?_, ?_⟩, fun k j hj => h.2 k j (fun s => absurd (show k = 34 + 7 * c ∨ k = 35 + 7 * c ∨ k = 36 + 7 * c ∨ k = 37 + 7 * c from s.1) (by omega))⟩
  · rw [h.1 (34 + 7 * c) p (Or.inl rfl) (Nat.zero_le _) (by omega), cchp, zu_o (by omega), zput_x]
  · rw [h.1 (35 + 7 * c) p (Or.inr (Or.inl rfl)) (Nat.zero_le _) (by omega), cchp, zu_o (by omega), zput_y]
  · rw [h.1 (36 + 7 * c) p (Or.inr (Or.inr (Or.inl rfl))) (Nat.zero_le _) (by omega), cchp, zu_s, zput_n (fun q => by have := q.1; omega)]
  · rw [h.1 (37 + 7 * c) p (Or.inr (Or.inr (Or.inr rfl))) (Nat.zero_le _) (by omega), cchp, zu_o (by omega), zput_z]
theorem zfill_f {A q n : Nat} {x : Int32} {f : Nat → zMu → zMu} (hf : ∀ i ν, f i ν = zu ν A (q + i) x) (μ : zMu) : (∀ i, i < n → zit f 0 n μ A (q + i) = x) ∧ ∀ k j, ¬ (k = A ∧ q ≤ j ∧ j < q + n) → zit f 0 n μ k j = μ k j := by
  have h := zit_pt (f := f) (a := 0) (N := n) (q := q) (S := fun k => k = A) (fun i ν k j hh => by
    rw [hf]
    by_cases e : k = A
    · exact zu_o2 (fun s => hh ⟨e, s⟩)
    · exact zu_o e) (fun i ν ν' _ hi hag k hk => by
    have hk9 : k = A := hk
    subst hk9
    rw [hf, hf, zu_s, zu_s]) μ n (Nat.le_refl _)
  refine ⟨fun i hi => ?_, fun k j hj => h.2 k j (fun s => hj ⟨s.1, by have := s.2; omega⟩)⟩
  rw [h.1 A i rfl (Nat.zero_le _) (by omega), hf, zu_s]
theorem cch1_f {c : Nat} {y : Int32} (μ : zMu) : (cch1 c y μ (34 + 7 * c) 0 = μ 3 0 ∧ cch1 c y μ (35 + 7 * c) 0 = μ 4 0) ∧ (∀ p, p < 24 → 0 < p → cch1 c y μ (34 + 7 * c) p = 100000 ∧ cch1 c y μ (35 + 7 * c) p = 100000) ∧ (∀ p, p < 24 → cch1 c y μ (36 + 7 * c) p = μ 5 p ∧ cch1 c y μ (37 + 7 * c) p = -1) ∧
    cch1 c y μ (33 + 7 * c) 0 = y ∧ (∀ b, b < 3 → cch1 c y μ (38 + 7 * c) b = nI 100) ∧ ∀ k j, (k < 33 + 7 * c ∨ 38 + 7 * c < k) → cch1 c y μ k j = μ k j := by
  obtain ⟨A, hA⟩ : ∃ A, A = zu μ (33 + 7 * c) 0 y := ⟨_, rfl⟩
  have fA : ∀ q j, q ≠ 33 + 7 * c → A q j = μ q j := fun q j h => by rw [hA, zu_o h]
  obtain ⟨fB, gB⟩ := cchp_f (c := c) A
  have fC := zfill_f (A := 38 + 7 * c) (q := 0) (n := 3) (x := nI 100) (f := cchs c) (fun i ν => by rw [cchs, Nat.zero_add]) (zit (cchp c) 0 24 A)
  have e0 : cch0 c y μ = zit (cchs c) 0 3 (zit (cchp c) 0 24 A) := by rw [cch0, hA]
  have gC : ∀ k j, k ≠ 38 + 7 * c → cch0 c y μ k j = zit (cchp c) 0 24 A k j := fun k j h => by rw [e0]; exact fC.2 k j (fun s => h s.1)
  unfold cch1
  refine ⟨⟨?_, ?_⟩, fun p hp h0 => ⟨?_, ?_⟩, fun p hp => ⟨?_, ?_⟩, ?_, fun b hb => ?_, fun k j hk => ?_⟩
  · rw [zput_x, gC _ _ (by omega), gB _ _ (by omega), fA _ _ (by omega)]
  · rw [zput_y, gC _ _ (by omega), gB _ _ (by omega), fA _ _ (by omega)]
  · rw [zput_n (fun q => by have := q.2; omega), gC _ _ (by omega), (fB p hp).1]
  · rw [zput_n (fun q => by have := q.2; omega), gC _ _ (by omega), (fB p hp).2.1]
  · rw [zput_n (fun q => by have := q.1; omega), gC _ _ (by omega), (fB p hp).2.2.1, fA _ _ (by omega)]
  · by_cases e : p = 0
    · rw [e, zput_z]
    · rw [zput_n (fun q => e q.2), gC _ _ (by omega), (fB p hp).2.2.2]
  · rw [zput_n (fun q => by have := q.1; omega), gC _ _ (by omega), gB _ _ (by omega), hA, zu_s]
  · have h := fC.1 b hb
    rw [Nat.zero_add, ← e0] at h
    rw [zput_n (fun q => by have := q.1; omega), h]
  · rw [zput_n (fun q => by have := q.1; omega), gC _ _ (by omega), gB _ _ (by omega), fA _ _ (by omega)]
theorem rb_drawn {n m : Nat} {x way h : Int32} (hx : rb n x) (hh : rb 9 h) (hnm : n + 9 ≤ m) (hm : m < 1000000) : rb m (zdraw x way h) := by
  unfold zdraw
  by_cases h1 : way = 1
  · rw [if_pos h1]
    have r5 : rb 5 (nI 5) := by unfold rb; rw [nI_toInt (by omega)]; omega
    exact rb_mul (rb_div (n := n / 5) hx (by omega) (Nat.le_refl _)) r5 (by omega) (by omega)
  · rw [if_neg h1]
    by_cases h2 : way = 2
    · rw [if_pos h2]
      exact rb_add hx hh hnm (by omega)
    · rw [if_neg h2]
      exact rb_m hx (by omega)
