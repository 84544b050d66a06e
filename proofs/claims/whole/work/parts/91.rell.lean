/-! a new chart -/
theorem zI_new {μ ν : zMu} {nc nr np ni : Nat} {rf rt : Nat → Nat} (hn : nc < 12)
    (o1 : ∀ k j, k < 117 → (k < 15 ∨ 18 < k) → ¬ (k = 1 ∧ j = 7) → (k < 33 + 7 * nc ∨ 39 + 7 * nc < k) → ν k j = μ k j)
    (o2 : ∀ k j, 117 ≤ k → k < 141 → ¬ (k = 117 ∧ (j = 0 ∨ j = 13)) → ¬ (k = 128 ∧ j = nc) → ¬ (k = 129 ∧ 3 * nc ≤ j ∧ j < 3 * nc + 3) → ¬ ((130 ≤ k ∧ k ≤ 134) ∧ 24 * nc ≤ j ∧ j < 24 * nc + 24) → ¬ (k = 140 ∧ 20 * nc ≤ j ∧ j < 20 * nc + 20) → ν k j = μ k j)
    (e1 : ν 1 7 = nI (nc + 1)) (e13 : ν 117 13 = nI (nc + 1))
    (hN : rN μ nc nr np ni) (hC : rC μ) (hP : rP μ) (hL : rL μ nr rf rt) (hY : rY μ) (hI : rI μ) (hB : rB μ nc) (hF : rF μ nc ni) (hK : rK μ nc) (hA : rA μ nc)
    (hy : ν (33 + 7 * nc) 0 = ν 128 nc) (hsc : ∀ b, b < 3 → ν (38 + 7 * nc) b = ν 129 (3 * nc + b))
    (hfl : ∀ i, i < 20 → ν (39 + 7 * nc) i = ν 140 (20 * nc + i) ∧ (ν 140 (20 * nc + i) = 0 ∨ ν 140 (20 * nc + i) = 1) ∧ (ni ≤ i → ν 140 (20 * nc + i) = 0))
    (hb : ∀ p, p < 24 → ν 130 (24 * nc + p) = 0 ∨ ν 130 (24 * nc + p) = 1) (hrow : ∀ p, p < 24 → rQ ν (nc + 1) nc p)
    (hs : ∀ p, p < 24 → ν (37 + 7 * nc) p = -1 ∨ ∃ c, c < nc ∧ ν (37 + 7 * nc) p = nI c) : zInv ν := by
  refine zI_ch (μ := μ) (nc' := nc + 1) (fun k q1 q2 q3 q4 q5 q6 => funext fun j => ?_) e1 e13 (by omega) ?_ ?_ ?_ hN hC hP hL hY hI ?_ ?_ ?_ ?_
  · by_cases h : k < 117
    · exact o1 k j h q3 (fun s => q1 s.1) (by omega)
    · exact o2 k j (by omega) (by omega) (fun s => q2 s.1) (fun s => by have := s.1; omega) (fun s => by have := s.1; omega) (fun s => by have := s.1; omega) (fun s => by have := s.1; omega)
  · exact o2 117 5 (by omega) (by omega) (fun s => by have := s.2; omega) (fun s => by have := s.1; omega) (fun s => by have := s.1; omega) (fun s => by have := s.1; omega) (fun s => by have := s.1; omega)
  · exact o2 117 8 (by omega) (by omega) (fun s => by have := s.2; omega) (fun s => by have := s.1; omega) (fun s => by have := s.1; omega) (fun s => by have := s.1; omega) (fun s => by have := s.1; omega)
  · exact o2 117 23 (by omega) (by omega) (fun s => by have := s.2; omega) (fun s => by have := s.1; omega) (fun s => by have := s.1; omega) (fun s => by have := s.1; omega) (fun s => by have := s.1; omega)
  · intro i hi
    by_cases h : 24 * nc ≤ i ∧ i < 24 * nc + 24
    · have h9 := hb (i - 24 * nc) (by omega)
      rw [show 24 * nc + (i - 24 * nc) = i by omega] at h9
      exact ⟨h9, fun q => by omega⟩
    · rw [o2 130 i (by omega) (by omega) (fun s => by have := s.1; omega) (fun s => by have := s.1; omega) (fun s => by have := s.1; omega) (fun s => h s.2) (fun s => by have := s.1; omega)]
      exact ⟨(hB i hi).1, fun q => (hB i hi).2 (by omega)⟩
  · intro c hc i hi
    by_cases e : c = nc
    · subst e
      obtain ⟨f1, f2, f3⟩ := hfl i hi
      exact ⟨f1, f2, fun q => f3 (by omega)⟩
    · obtain ⟨f1, f2, f3⟩ := hF c hc i hi
      rw [o1 (39 + 7 * c) i (by omega) (by omega) (fun s => by have := s.1; omega) (by omega), o2 140 (20 * c + i) (by omega) (by omega) (fun s => by have := s.1; omega) (fun s => by have := s.1; omega) (fun s => by have := s.1; omega) (fun s => by have := s.1; omega) (fun s => by have := s.2; omega)]
      exact ⟨f1, f2, fun q => f3 (by omega)⟩
  · intro c hc
    by_cases e : c = nc
    · subst e
      exact ⟨hy, hsc, hrow⟩
    · obtain ⟨a1, a2, a3⟩ := hK c (by omega)
      have hx : ∀ k j, k = 33 + 7 * c ∨ k = 34 + 7 * c ∨ k = 35 + 7 * c ∨ k = 36 + 7 * c ∨ k = 37 + 7 * c ∨ k = 38 + 7 * c → ν k j = μ k j := fun k j q => o1 k j (by omega) (by omega) (fun s => by have := s.1; omega) (by omega)
      refine ⟨?_, fun b hb => ?_, fun p hp => ?_⟩
      · rw [hx _ _ (by omega), o2 128 c (by omega) (by omega) (fun s => by have := s.1; omega) (fun s => by have := s.2; omega) (fun s => by have := s.1; omega) (fun s => by have := s.1; omega) (fun s => by have := s.1; omega)]
        exact a1
      · rw [hx _ _ (by omega), o2 129 (3 * c + b) (by omega) (by omega) (fun s => by have := s.1; omega) (fun s => by have := s.1; omega) (fun s => by have := s.2; omega) (fun s => by have := s.1; omega) (fun s => by have := s.1; omega)]
        exact a2 b hb
      · exact rQ_v (Nat.le_succ nc) (hx _ _ (by omega)) (hx _ _ (by omega)) (hx _ _ (by omega)) (hx _ _ (by omega)) (fun k q1 q2 => o2 k (24 * c + p) (by omega) (by omega) (fun s => by have := s.1; omega) (fun s => by have := s.1; omega) (fun s => by have := s.1; omega) (fun s => by have := s.2; omega) (fun s => by have := s.1; omega)) (a3 p hp)
  · intro p hp
    obtain ⟨h, hh⟩ := hA p hp
    have hx : ∀ c, c < nc → ν (37 + 7 * c) p = μ (37 + 7 * c) p := fun c hc => o1 _ p (by omega) (by omega) (fun s => by have := s.1; omega) (by omega)
    rcases hs p hp with e | ⟨c9, hc9, e⟩
    · refine ⟨h, fun c hc j hj ej => ?_⟩
      by_cases e9 : c = nc
      · subst e9
        exact absurd (e.symm.trans ej) (znm1 (by omega))
      · rw [hx c (by omega)] at ej
        obtain ⟨r1, r2⟩ := hh c (by omega) j hj ej
        exact ⟨by omega, r2⟩
    · refine ⟨fun c => if c = nc then h c9 + 1 else h c, fun c hc j hj ej => ?_⟩
      dsimp only
      by_cases e9 : c = nc
      · subst e9
        have ej2 : j = c9 := (nI_eq (by omega) (by omega)).mp (ej.symm.trans e)
        subst ej2
        rw [if_neg (show ¬ j = c by omega), if_pos rfl]
        exact ⟨by omega, by omega⟩
      · rw [hx c (by omega)] at ej
        obtain ⟨r1, r2⟩ := hh c (by omega) j hj ej
        rw [if_neg (show ¬ j = nc by omega), if_neg e9]
        exact ⟨by omega, r2⟩
/-! copy: what is written -/
section CP
variable {c d k i : Nat} {nm : Nat → Nat} {way : Int32} {ν : zMu}
theorem ccpn_n {q : Nat} (h : q ≠ 36 + 7 * d) {j : Nat} : ccpn d k nm i ν q j = ν q j := by unfold ccpn; exact zu_o h
theorem ccp_0 : ccp c d k nm way i ν (36 + 7 * d) i = ν (26 + 2 * k) (nm i) := by
  unfold ccp
  split
  · rw [zput_n (fun q => by have := q.1; omega), ccpn, zu_s]
  · rw [zput_n (fun q => by have := q.1; omega), ccpn, zu_s]
theorem ccp_1 (hcd : c ≠ d) (hk : k < 4) : ccp c d k nm way i ν (34 + 7 * d) i = if zkn ν c i then zdraw (ν (34 + 7 * c) i) way (ν (25 + 2 * k) 0) else 100000 := by
  unfold ccp
  have hkn : zkn (ccpn d k nm i ν) c i ↔ zkn ν c i := zkn_c (ccpn_n (by omega))
  by_cases h : zkn ν c i
  · rw [if_pos h, if_pos (hkn.mpr h), zput_x, ccpn_n (by omega), ccpn_n (by omega)]
  · rw [if_neg h, if_neg (fun q => h (hkn.mp q)), zput_x]
theorem ccp_2 (hcd : c ≠ d) (hk : k < 4) : ccp c d k nm way i ν (35 + 7 * d) i = if zkn ν c i then zdraw (ν (35 + 7 * c) i) way (-ν (25 + 2 * k) 0) else 100000 := by
  unfold ccp
  have hkn : zkn (ccpn d k nm i ν) c i ↔ zkn ν c i := zkn_c (ccpn_n (by omega))
  by_cases h : zkn ν c i
  · rw [if_pos h, if_pos (hkn.mpr h), zput_y, ccpn_n (by omega), ccpn_n (by omega)]
  · rw [if_neg h, if_neg (fun q => h (hkn.mp q)), zput_y]
theorem ccp_3 (hcd : c ≠ d) : ccp c d k nm way i ν (37 + 7 * d) i = if zkn ν c i then nI c else -1 := by
  unfold ccp
  have hkn : zkn (ccpn d k nm i ν) c i ↔ zkn ν c i := zkn_c (ccpn_n (by omega))
  by_cases h : zkn ν c i
  · rw [if_pos h, if_pos (hkn.mpr h), zput_z]
  · rw [if_neg h, if_neg (fun q => h (hkn.mp q)), zput_z]
theorem ccp_n {q j : Nat} (hh : ¬ ((q = 34 + 7 * d ∨ q = 35 + 7 * d ∨ q = 36 + 7 * d ∨ q = 37 + 7 * d) ∧ j = i)) : ccp c d k nm way i ν q j = ν q j := by
  have h9 : ccpn d k nm i ν q j = ν q j := by
    unfold ccpn
    by_cases e : j = i
    · exact zu_o (fun q => hh ⟨Or.inr (Or.inr (Or.inl q)), e⟩)
    · exact zu_o2 e
  have h8 : ¬ ((q = 34 + 7 * d ∨ q = 35 + 7 * d ∨ q = 37 + 7 * d) ∧ j = i) := fun q => hh ⟨by have := q.1; omega, q.2⟩
  unfold ccp
  split
  · rw [zput_n h8, h9]
  · rw [zput_n h8, h9]
end CP
theorem ccp_f {c d k : Nat} {nm : Nat → Nat} {way : Int32} (hcd : c ≠ d) (hk4 : k < 4) (μ : zMu) : (∀ p, p < 24 → zit (ccp c d k nm way) 0 24 μ (36 + 7 * d) p = μ (26 + 2 * k) (nm p) ∧ zit (ccp c d k nm way) 0 24 μ (34 + 7 * d) p = (if zkn μ c p then zdraw (μ (34 + 7 * c) p) way (μ (25 + 2 * k) 0) else 100000) ∧
      zit (ccp c d k nm way) 0 24 μ (35 + 7 * d) p = (if zkn μ c p then zdraw (μ (35 + 7 * c) p) way (-μ (25 + 2 * k) 0) else 100000) ∧ zit (ccp c d k nm way) 0 24 μ (37 + 7 * d) p = (if zkn μ c p then nI c else -1)) ∧
    ∀ q j, ¬ ((q = 34 + 7 * d ∨ q = 35 + 7 * d ∨ q = 36 + 7 * d ∨ q = 37 + 7 * d) ∧ j < 24) → zit (ccp c d k nm way) 0 24 μ q j = μ q j := by
  have h := zit_p0 (f := ccp c d k nm way) (a := 0) (N := 24) (S := fun q => q = 34 + 7 * d ∨ q = 35 + 7 * d ∨ q = 36 + 7 * d ∨ q = 37 + 7 * d) (fun i ν q j hh => ccp_n hh) (fun i ν ν' _ _ hag q hq => by
    have e34 : ν (34 + 7 * c) i = ν' (34 + 7 * c) i := hag _ _ (fun _ => Or.inl rfl)
    have e35 : ν (35 + 7 * c) i = ν' (35 + 7 * c) i := hag _ _ (fun _ => Or.inl rfl)
    have e26 : ν (26 + 2 * k) (nm i) = ν' (26 + 2 * k) (nm i) := hag _ _ (fun s => absurd (show 26 + 2 * k = 34 + 7 * d ∨ 26 + 2 * k = 35 + 7 * d ∨ 26 + 2 * k = 36 + 7 * d ∨ 26 + 2 * k = 37 + 7 * d from s) (by omega))
    have e25 : ν (25 + 2 * k) 0 = ν' (25 + 2 * k) 0 := hag _ _ (fun s => absurd (show 25 + 2 * k = 34 + 7 * d ∨ 25 + 2 * k = 35 + 7 * d ∨ 25 + 2 * k = 36 + 7 * d ∨ 25 + 2 * k = 37 + 7 * d from s) (by omega))
    rcases hq with rfl | rfl | rfl | rfl
    · exact (ccp_1 hcd hk4).trans ((zifc (zkn_c e34) (by rw [e34, e25]) rfl).trans (ccp_1 hcd hk4).symm)
    · exact (ccp_2 hcd hk4).trans ((zifc (zkn_c e34) (by rw [e35, e25]) rfl).trans (ccp_2 hcd hk4).symm)
    · rw [ccp_0, ccp_0, e26]
    · exact (ccp_3 hcd).trans ((zifc (zkn_c e34) rfl rfl).trans (ccp_3 hcd).symm)) μ 24 (Nat.le_refl _)
  refine ⟨fun p h1 => ⟨?_, ?_, ?_, ?_⟩, fun q j hj => h.2 q j (fun s => hj ⟨s.1, by have := s.2.2; omega⟩)⟩
  · rw [h.1 (36 + 7 * d) p (Or.inr (Or.inr (Or.inl rfl))) (Nat.zero_le _) (by omega), ccp_0]
  · rw [h.1 (34 + 7 * d) p (Or.inl rfl) (Nat.zero_le _) (by omega), ccp_1 hcd hk4]
  · rw [h.1 (35 + 7 * d) p (Or.inr (Or.inl rfl)) (Nat.zero_le _) (by omega), ccp_2 hcd hk4]
  · rw [h.1 (37 + 7 * d) p (Or.inr (Or.inr (Or.inr rfl))) (Nat.zero_le _) (by omega), ccp_3 hcd]
/-- a row of numbers is taken over -/
theorem zrow_f {A B q n r : Nat} {f : Nat → zMu → zMu} (hf : ∀ i ν, f i ν = zu ν A (q + i) (ν B (r + i))) (hAB : A ≠ B ∨ ∀ i j, i < n → j < n → r + i ≠ q + j) (μ : zMu) : (∀ i, i < n → zit f 0 n μ A (q + i) = μ B (r + i)) ∧ ∀ k j, ¬ (k = A ∧ q ≤ j ∧ j < q + n) → zit f 0 n μ k j = μ k j := by
  have h := zit_pt (f := f) (a := 0) (N := n) (q := q) (S := fun k => k = A) (fun i ν k j hh => by
    rw [hf]
    by_cases e : k = A
    · exact zu_o2 (fun s => hh ⟨e, s⟩)
    · exact zu_o e) (fun i ν ν' _ hi hag k hk => by
    have hk9 : k = A := hk
    subst hk9
    rw [hf, hf, zu_s, zu_s]
    refine hag B (r + i) (fun s => ?_)
    have s9 : B = k := s
    rcases hAB with hne | hne
    · exact absurd s9.symm hne
    · refine Or.inr (fun w => ?_)
      exact hne i (r + i - q) (by omega) (by omega) (by omega)) μ n (Nat.le_refl _)
  refine ⟨fun i hi => ?_, fun k j hj => h.2 k j (fun s => hj ⟨s.1, by have := s.2; omega⟩)⟩
  rw [h.1 A i rfl (Nat.zero_le _) (by omega), hf, zu_s]
theorem ccopy_f {c d k : Nat} {nm : Nat → Nat} {way y : Int32} (hcd : c ≠ d) (hk4 : k < 4) (μ : zMu) : (∀ p, p < 24 → ccopy c d k nm way y μ (36 + 7 * d) p = μ (26 + 2 * k) (nm p) ∧ ccopy c d k nm way y μ (34 + 7 * d) p = (if zkn μ c p then zdraw (μ (34 + 7 * c) p) way (μ (25 + 2 * k) 0) else 100000) ∧
      ccopy c d k nm way y μ (35 + 7 * d) p = (if zkn μ c p then zdraw (μ (35 + 7 * c) p) way (-μ (25 + 2 * k) 0) else 100000) ∧ ccopy c d k nm way y μ (37 + 7 * d) p = (if zkn μ c p then nI c else -1)) ∧
    ccopy c d k nm way y μ (33 + 7 * d) 0 = y ∧ (∀ b, b < 3 → ccopy c d k nm way y μ (38 + 7 * d) b = μ (38 + 7 * c) b) ∧ (∀ i, i < 20 → ccopy c d k nm way y μ (39 + 7 * d) i = μ (39 + 7 * c) i) ∧ ccopy c d k nm way y μ 1 7 = nI (d + 1) ∧
    ∀ q j, ¬ (q = 1 ∧ j = 7) → (q < 33 + 7 * d ∨ 39 + 7 * d < q) → ccopy c d k nm way y μ q j = μ q j := by
  unfold ccopy
  obtain ⟨A, hA⟩ : ∃ A, A = zu μ (33 + 7 * d) 0 y := ⟨_, rfl⟩
  have fA : ∀ q j, q ≠ 33 + 7 * d → A q j = μ q j := fun q j h => by rw [hA, zu_o h]
  have fB := ccp_f (nm := nm) (way := way) hcd hk4 A
  have gB : ∀ q j, (q < 34 + 7 * d ∨ 37 + 7 * d < q) → zit (ccp c d k nm way) 0 24 A q j = A q j := fun q j h => fB.2 q j (fun s => by have := s.1; omega)
  have fC := zrow_f (A := 38 + 7 * d) (B := 38 + 7 * c) (q := 0) (r := 0) (n := 3) (f := cfr1 d c) (fun i ν => by rw [cfr1, Nat.zero_add]) (Or.inl (by omega)) (zit (ccp c d k nm way) 0 24 A)
  have fD := zrow_f (A := 39 + 7 * d) (B := 39 + 7 * c) (q := 0) (r := 0) (n := 20) (f := cfr2 d c) (fun i ν => by rw [cfr2, Nat.zero_add]) (Or.inl (by omega)) (zit (cfr1 d c) 0 3 (zit (ccp c d k nm way) 0 24 A))
  rw [← hA]
  have gC : ∀ q j, q ≠ 38 + 7 * d → zit (cfr1 d c) 0 3 (zit (ccp c d k nm way) 0 24 A) q j = zit (ccp c d k nm way) 0 24 A q j := fun q j h => fC.2 q j (fun s => h s.1)
  have gD : ∀ q j, q ≠ 39 + 7 * d → zit (cfr2 d c) 0 20 (zit (cfr1 d c) 0 3 (zit (ccp c d k nm way) 0 24 A)) q j = zit (cfr1 d c) 0 3 (zit (ccp c d k nm way) 0 24 A) q j := fun q j h => fD.2 q j (fun s => h s.1)
  have kA : ∀ p, zkn A c p ↔ zkn μ c p := fun p => zkn_c (fA _ _ (by omega))
  refine ⟨fun p hp => ?_, ?_, fun b hb => ?_, fun i hi => ?_, zu_s, fun q j h1 h2 => ?_⟩
  · obtain ⟨b1, b2, b3, b4⟩ := fB.1 p hp
    refine ⟨?_, ?_, ?_, ?_⟩
    · rw [zu_o (by omega), gD _ _ (by omega), gC _ _ (by omega), b1, fA _ _ (by omega)]
    · rw [zu_o (by omega), gD _ _ (by omega), gC _ _ (by omega), b2]
      exact zifc (kA p) (by rw [fA _ _ (by omega), fA _ _ (by omega)]) rfl
    · rw [zu_o (by omega), gD _ _ (by omega), gC _ _ (by omega), b3]
      exact zifc (kA p) (by rw [fA _ _ (by omega), fA _ _ (by omega)]) rfl
    · rw [zu_o (by omega), gD _ _ (by omega), gC _ _ (by omega), b4]
      exact zifc (kA p) rfl rfl
  · rw [zu_o (by omega), gD _ _ (by omega), gC _ _ (by omega), gB _ _ (by omega), hA, zu_s]
  · have h := fC.1 b hb
    rw [Nat.zero_add] at h
    rw [zu_o (by omega), gD _ _ (by omega), h, gB _ _ (by omega), fA _ _ (by omega)]
  · have h := fD.1 i hi
    rw [Nat.zero_add] at h
    rw [zu_o (by omega), h, gC _ _ (by omega), gB _ _ (by omega), fA _ _ (by omega)]
  · have e : zu (zit (cfr2 d c) 0 20 (zit (cfr1 d c) 0 3 (zit (ccp c d k nm way) 0 24 A))) 1 7 (nI (d + 1)) q j = zit (cfr2 d c) 0 20 (zit (cfr1 d c) 0 3 (zit (ccp c d k nm way) 0 24 A)) q j := by
      by_cases e1 : q = 1
      · exact zu_o2 (fun s => h1 ⟨e1, s⟩)
      · exact zu_o e1
    rw [e, gD _ _ (by omega), gC _ _ (by omega), gB _ _ (by omega), fA _ _ (by omega)]
section DP
variable {c d q i : Nat} {nm : Nat → Nat} {way : Int32} {ν : zMu}
theorem dcpa_b (hcd : c ≠ d) (hi : i < 24) : dcpa c d q nm way i ν 130 (24 * c + i) = ν 130 (24 * c + i) := by
  unfold dcpa
  rw [zu_o (by omega), zu_o (by omega), zu_o (by omega), zu_o2 (by omega)]
theorem dcp_0 : dcp c d q nm way i ν 130 (24 * d + i) = ν 130 (24 * c + i) := by
  unfold dcp
  rw [zu_o (by omega), dcpa, zu_o (by omega), zu_o (by omega), zu_o (by omega), zu_s]
theorem dcp_1 : dcp c d q nm way i ν 131 (24 * d + i) = zmade (ν 131 (24 * c + i)) way (ν 135 q) := by
  unfold dcp
  rw [zu_o (by omega), dcpa, zu_o (by omega), zu_o (by omega), zu_s]
theorem dcp_2 : dcp c d q nm way i ν 132 (24 * d + i) = zmade (ν 132 (24 * c + i)) way (-(ν 135 q)) := by
  unfold dcp
  rw [zu_o (by omega), dcpa, zu_o (by omega), zu_s]
theorem dcp_3 : dcp c d q nm way i ν 133 (24 * d + i) = ν 136 (100 * q + nm i) := by
  unfold dcp
  rw [zu_o (by omega), dcpa, zu_s]
theorem dcp_4 (hcd : c ≠ d) (hi : i < 24) : dcp c d q nm way i ν 134 (24 * d + i) = if ν 130 (24 * c + i) = 0 then -1 else nI c := by
  unfold dcp
  rw [zu_s]
  exact zite (dcpa_b hcd hi)
theorem dcp_n {k j : Nat} (hh : ¬ ((130 ≤ k ∧ k ≤ 134) ∧ j = 24 * d + i)) : dcp c d q nm way i ν k j = ν k j := by
  unfold dcp dcpa
  by_cases e : j = 24 * d + i
  · have h9 : ¬ (130 ≤ k ∧ k ≤ 134) := fun q => hh ⟨q, e⟩
    rw [zu_o (by omega), zu_o (by omega), zu_o (by omega), zu_o (by omega), zu_o (by omega)]
  · rw [zu_o2 e, zu_o2 e, zu_o2 e, zu_o2 e, zu_o2 e]
end DP
theorem dcp_f {c d q : Nat} {nm : Nat → Nat} {way : Int32} (hcd : c ≠ d) (μ : zMu) : (∀ p, p < 24 → zit (dcp c d q nm way) 0 24 μ 130 (24 * d + p) = μ 130 (24 * c + p) ∧ zit (dcp c d q nm way) 0 24 μ 131 (24 * d + p) = zmade (μ 131 (24 * c + p)) way (μ 135 q) ∧
      zit (dcp c d q nm way) 0 24 μ 132 (24 * d + p) = zmade (μ 132 (24 * c + p)) way (-(μ 135 q)) ∧ zit (dcp c d q nm way) 0 24 μ 133 (24 * d + p) = μ 136 (100 * q + nm p) ∧ zit (dcp c d q nm way) 0 24 μ 134 (24 * d + p) = (if μ 130 (24 * c + p) = 0 then -1 else nI c)) ∧
    ∀ k j, ¬ ((130 ≤ k ∧ k ≤ 134) ∧ 24 * d ≤ j ∧ j < 24 * d + 24) → zit (dcp c d q nm way) 0 24 μ k j = μ k j := by
  have h := zit_pt (f := dcp c d q nm way) (a := 0) (N := 24) (q := 24 * d) (S := fun k => 130 ≤ k ∧ k ≤ 134) (fun i ν k j hh => dcp_n hh) (fun i ν ν' hi1 hi2 hag k hk => by
    have e0 : ν 130 (24 * c + i) = ν' 130 (24 * c + i) := hag _ _ (fun _ => Or.inr (by omega))
    have e1 : ν 131 (24 * c + i) = ν' 131 (24 * c + i) := hag _ _ (fun _ => Or.inr (by omega))
    have e2 : ν 132 (24 * c + i) = ν' 132 (24 * c + i) := hag _ _ (fun _ => Or.inr (by omega))
    have e5 : ν 135 q = ν' 135 q := hag _ _ (fun s => absurd (show 130 ≤ 135 ∧ 135 ≤ 134 from s) (by omega))
    have e6 : ν 136 (100 * q + nm i) = ν' 136 (100 * q + nm i) := hag _ _ (fun s => absurd (show 130 ≤ 136 ∧ 136 ≤ 134 from s) (by omega))
    have hks : k = 130 ∨ k = 131 ∨ k = 132 ∨ k = 133 ∨ k = 134 := by have h1 := hk.1; have h2 := hk.2; omega
    rcases hks with rfl | rfl | rfl | rfl | rfl
    · rw [dcp_0, dcp_0, e0]
    · rw [dcp_1, dcp_1, e1, e5]
    · rw [dcp_2, dcp_2, e2, e5]
    · rw [dcp_3, dcp_3, e6]
    · exact (dcp_4 hcd (by omega)).trans ((zite e0).trans (dcp_4 hcd (by omega)).symm)) μ 24 (Nat.le_refl _)
  refine ⟨fun p h1 => ⟨?_, ?_, ?_, ?_, ?_⟩, fun k j hj => h.2 k j (fun s => hj ⟨s.1, by have := s.2; omega⟩)⟩
  · rw [h.1 130 p ⟨by omega, by omega⟩ (Nat.zero_le _) (by omega), dcp_0]
  · rw [h.1 131 p ⟨by omega, by omega⟩ (Nat.zero_le _) (by omega), dcp_1]
  · rw [h.1 132 p ⟨by omega, by omega⟩ (Nat.zero_le _) (by omega), dcp_2]
  · rw [h.1 133 p ⟨by omega, by omega⟩ (Nat.zero_le _) (by omega), dcp_3]
  · rw [h.1 134 p ⟨by omega, by omega⟩ (Nat.zero_le _) (by omega), dcp_4 hcd h1]
theorem dcopy_f {c d q ni : Nat} {nm : Nat → Nat} {way y : Int32} (hcd : c ≠ d) (hi20 : ni ≤ 20) (μ : zMu) : (∀ p, p < 24 → dcopy c d q nm way y ni μ 130 (24 * d + p) = μ 130 (24 * c + p) ∧ dcopy c d q nm way y ni μ 131 (24 * d + p) = zmade (μ 131 (24 * c + p)) way (μ 135 q) ∧
      dcopy c d q nm way y ni μ 132 (24 * d + p) = zmade (μ 132 (24 * c + p)) way (-(μ 135 q)) ∧ dcopy c d q nm way y ni μ 133 (24 * d + p) = μ 136 (100 * q + nm p) ∧ dcopy c d q nm way y ni μ 134 (24 * d + p) = (if μ 130 (24 * c + p) = 0 then -1 else nI c)) ∧
    dcopy c d q nm way y ni μ 128 d = y ∧ (∀ b, b < 3 → dcopy c d q nm way y ni μ 129 (3 * d + b) = μ 129 (3 * c + b)) ∧ (∀ i, i < ni → dcopy c d q nm way y ni μ 140 (20 * d + i) = μ 140 (20 * c + i)) ∧ dcopy c d q nm way y ni μ 117 13 = nI (d + 1) ∧
    ∀ k j, ¬ (k = 117 ∧ j = 13) → ¬ (k = 128 ∧ j = d) → ¬ (k = 129 ∧ 3 * d ≤ j ∧ j < 3 * d + 3) → ¬ ((130 ≤ k ∧ k ≤ 134) ∧ 24 * d ≤ j ∧ j < 24 * d + 24) → ¬ (k = 140 ∧ 20 * d ≤ j ∧ j < 20 * d + ni) → dcopy c d q nm way y ni μ k j = μ k j := by
  unfold dcopy
  have fB := dcp_f (nm := nm) (way := way) (q := q) hcd μ
  obtain ⟨B, hB⟩ : ∃ B, B = zit (dcp c d q nm way) 0 24 μ := ⟨_, rfl⟩
  rw [← hB] at fB
  have fC := zrow_f (A := 129) (B := 129) (q := 3 * d) (r := 3 * c) (n := 3) (f := dcs c d) (fun i ν => rfl) (Or.inr (fun i j hi hj => by omega)) B
  obtain ⟨C, hC⟩ : ∃ C, C = zit (dcs c d) 0 3 B := ⟨_, rfl⟩
  rw [← hC] at fC
  have fD := zrow_f (A := 140) (B := 140) (q := 20 * d) (r := 20 * c) (n := ni) (f := dci c d) (fun i ν => rfl) (Or.inr (fun i j hi hj => by omega)) C
  obtain ⟨D, hD⟩ : ∃ D, D = zit (dci c d) 0 ni C := ⟨_, rfl⟩
  rw [← hD] at fD
  rw [← hB, ← hC, ← hD]
  have gC : ∀ k j, k ≠ 129 → C k j = B k j := fun k j h => fC.2 k j (fun s => h s.1)
  have gD : ∀ k j, k ≠ 140 → D k j = C k j := fun k j h => fD.2 k j (fun s => h s.1)
  have gB : ∀ k j, (k < 130 ∨ 134 < k) → B k j = μ k j := fun k j h => fB.2 k j (fun s => by have := s.1; omega)
  refine ⟨fun p hp => ?_, ?_, fun b hb => ?_, fun i hi => ?_, zu_s, fun k j h1 h2 h3 h4 h5 => ?_⟩
  · rw [zu_o (by omega), zu_o (by omega), gD _ _ (by omega), gC _ _ (by omega), zu_o (by omega), zu_o (by omega), gD _ _ (by omega), gC _ _ (by omega), zu_o (by omega), zu_o (by omega), gD _ _ (by omega), gC _ _ (by omega), zu_o (by omega), zu_o (by omega), gD _ _ (by omega), gC _ _ (by omega), zu_o (by omega), zu_o (by omega), gD _ _ (by omega), gC _ _ (by omega)]
    exact fB.1 p hp
  · rw [zu_o (by omega), zu_s]
  · rw [zu_o (by omega), zu_o (by omega), gD _ _ (by omega), fC.1 b hb, gB _ _ (by omega)]
  · rw [zu_o (by omega), zu_o (by omega), fD.1 i hi, gC _ _ (by omega), gB _ _ (by omega)]
  · have e1 : zu (zu D 128 d y) 117 13 (nI (d + 1)) k j = D k j := by
      have e2 : zu (zu D 128 d y) 117 13 (nI (d + 1)) k j = zu D 128 d y k j := by
        by_cases e : k = 117
        · exact zu_o2 (fun s => h1 ⟨e, s⟩)
        · exact zu_o e
      rw [e2]
      by_cases e : k = 128
      · exact zu_o2 (fun s => h2 ⟨e, s⟩)
      · exact zu_o e
    rw [e1, fD.2 k j h5, fC.2 k j h3, fB.2 k j h4]
