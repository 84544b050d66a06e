/-! report -/
theorem zrx_b {μ : zMu} {q f t : Nat} (hC : rC μ) (hP : rP μ) (hq : q < 6) (hf : f < 24) (ht : t < 24) : rb 1690 (zrx μ q f t + zrx μ q f t * μ 9 q / nI 100) ∧ rb 1690 (zry μ q f t + zry μ q f t * μ 9 q / nI 100) := by
  obtain ⟨-, b1, b2⟩ := hP q hq
  obtain ⟨-, f1, f2, -⟩ := hC f hf
  obtain ⟨-, t1, t2, -⟩ := hC t ht
  have w1 := rb_zin (by omega) b1
  have w2 := rb_zin (by omega) b2
  have dx : rb 1000 (μ 3 t - μ 3 f) := rb_sub (rb_zin (by omega) t1) (rb_zin (by omega) f1) (by omega) (by omega)
  have dy : rb 1000 (μ 4 t - μ 4 f) := rb_sub (rb_zin (by omega) t2) (rb_zin (by omega) f2) (by omega) (by omega)
  have ex : rb 300 ((μ 3 t - μ 3 f) * μ 8 q / nI 100) := rb_div (rb_mul (n := 30000) dx w1 (by omega) (by omega)) (by omega) (by omega)
  have ey : rb 300 ((μ 4 t - μ 4 f) * μ 8 q / nI 100) := rb_div (rb_mul (n := 30000) dy w1 (by omega) (by omega)) (by omega) (by omega)
  have gx : rb 1300 (zrx μ q f t) := by unfold zrx; exact rb_sub dx ey (by omega) (by omega)
  have gy : rb 1300 (zry μ q f t) := by unfold zry; exact rb_add dy ex (by omega) (by omega)
  have kx : rb 390 (zrx μ q f t * μ 9 q / nI 100) := rb_div (rb_mul (n := 39000) gx w2 (by omega) (by omega)) (by omega) (by omega)
  have ky : rb 390 (zry μ q f t * μ 9 q / nI 100) := rb_div (rb_mul (n := 39000) gy w2 (by omega) (by omega)) (by omega) (by omega)
  exact ⟨rb_add gx kx (by omega) (by omega), rb_add gy ky (by omega) (by omega)⟩
theorem za_report {E : Nat × (Nat → Int32)} {μ : zMu} {x1 x2 x3 x4 x5 : Int32} (hI : zInv μ) : zAll zInv E μ x1 x2 x3 x4 x5 2 := by
  obtain ⟨nc, nr, np, ni, rf, rt, hN, hC, hP, hL, hY, hI', hB, hF, hK, hA⟩ := id hI
  obtain ⟨n1, n2, n3, n4⟩ := hN
  have h12 := n1.2.2
  have h60 := n2.2.2
  have h6 := n3.2.2
  by_cases hb : zrg np x1 ∧ zrg 24 x2 ∧ zrg 24 x3
  · obtain ⟨q, hq, rfl⟩ := zrg_of hb.1 (by omega)
    obtain ⟨f, hf, rfl⟩ := zrg_of hb.2.1 (by omega)
    obtain ⟨t, ht, rfl⟩ := zrg_of hb.2.2 (by omega)
    by_cases e : f = t
    · right; right; left
      refine ⟨zu μ 117 0 (nI 2), nI 0, fun g => ?_, fun g => ?_, zu_s, zInv_t hI⟩
      · have h := ct_X7_report (E := E) (μ := μ) (g := g) n3.1 h6 n2.1 h60 hq hf ht
        rw [if_pos e] at h
        exact h
      · have h := ct_X8_report (E := E) (μ := μ) (g := g) n3.2.1 h6 n2.2.1 h60 hq hf ht
        rw [if_pos e] at h
        exact h
    · by_cases hr : nr < 60
      · left
        obtain ⟨bx, by9⟩ := zrx_b hC hP (q := q) (by omega) hf ht
        obtain ⟨X, hX⟩ : ∃ X, X = zrx μ q f t + zrx μ q f t * μ 9 q / nI 100 := ⟨_, rfl⟩
        obtain ⟨Y, hY9⟩ : ∃ Y, Y = zry μ q f t + zry μ q f t * μ 9 q / nI 100 := ⟨_, rfl⟩
        rw [← hX] at bx
        rw [← hY9] at by9
        have eX : ((μ 118 t - μ 118 f) - (μ 119 t - μ 119 f) * μ 122 q / nI 100) + ((μ 118 t - μ 118 f) - (μ 119 t - μ 119 f) * μ 122 q / nI 100) * μ 123 q / nI 100 = X := by
          rw [hX, zrx, (hC t ht).1.1, (hC t ht).1.2.1, (hC f hf).1.1, (hC f hf).1.2.1, (hP q (by omega)).1.1, (hP q (by omega)).1.2]
        have eY : ((μ 119 t - μ 119 f) + (μ 118 t - μ 118 f) * μ 122 q / nI 100) + ((μ 119 t - μ 119 f) + (μ 118 t - μ 118 f) * μ 122 q / nI 100) * μ 123 q / nI 100 = Y := by
          rw [hY9, zry, (hC t ht).1.1, (hC t ht).1.2.1, (hC f hf).1.1, (hC f hf).1.2.1, (hP q (by omega)).1.1, (hP q (by omega)).1.2]
        obtain ⟨μ1, hμ1⟩ : ∃ μ1, μ1 = zu (zu (zu (zu (zu μ 11 nr (nI f)) 12 nr (nI t)) 13 nr X) 14 nr Y) 10 4 (nI (nr + 1)) := ⟨_, rfl⟩
        have o1 : ∀ k, k ≠ 10 → (k < 11 ∨ 14 < k) → μ1 k = μ k := fun k q1 q2 => by rw [hμ1, zu_r (by omega), zu_r (by omega), zu_r (by omega), zu_r (by omega), zu_r (by omega)]
        refine ⟨μ1, zu (zu (zu (zu (zu (zu μ1 117 0 (nI 0)) 124 nr (nI f)) 125 nr (nI t)) 126 nr X) 127 nr Y) 117 8 (nI (nr + 1)), nI nr, fun g => ?_, fun g => ?_, ?_, ?_⟩
        · have h := ct_X7_report (E := E) (μ := μ) (g := g) n3.1 h6 n2.1 h60 hq hf ht
          rw [if_neg e, if_neg (fun s => s hr), ← hX, ← hY9, ← hμ1] at h
          exact h
        · have h := ct_X8_report (E := E) (μ := μ1) (g := g) (np := np) (nr := nr) (by rw [o1 117 (by omega) (by omega)]; exact n3.2.1) h6 (by rw [o1 117 (by omega) (by omega)]; exact n2.2.1) h60 hq hf ht
          rw [if_neg e, if_neg (fun s => s hr), o1 118 (by omega) (by omega), o1 119 (by omega) (by omega), o1 122 (by omega) (by omega), o1 123 (by omega) (by omega), eX, eY] at h
          exact h
        · rw [zu_o2 (by omega), zu_o (by omega), zu_o (by omega), zu_o (by omega), zu_o (by omega), zu_s]
        · have o : ∀ k, k ≠ 10 → (k < 11 ∨ 14 < k) → k ≠ 117 → (k < 124 ∨ 127 < k) → zu (zu (zu (zu (zu (zu μ1 117 0 (nI 0)) 124 nr (nI f)) 125 nr (nI t)) 126 nr X) 127 nr Y) 117 8 (nI (nr + 1)) k = μ k := fun k q1 q2 q3 q4 => by rw [zu_r (by omega), zu_r (by omega), zu_r (by omega), zu_r (by omega), zu_r (by omega), zu_r (by omega), o1 k q1 q2]
          have o117 : ∀ j, j ≠ 0 → j ≠ 8 → zu (zu (zu (zu (zu (zu μ1 117 0 (nI 0)) 124 nr (nI f)) 125 nr (nI t)) 126 nr X) 127 nr Y) 117 8 (nI (nr + 1)) 117 j = μ 117 j := fun j q1 q2 => by rw [zu_o2 q2, zu_o (by omega), zu_o (by omega), zu_o (by omega), zu_o (by omega), zu_o2 q1, o1 117 (by omega) (by omega)]
          refine ⟨nc, nr + 1, np, ni, fun i => if i = nr then f else rf i, fun i => if i = nr then t else rt i, ⟨⟨?_, ?_, h12⟩, ⟨?_, zu_s, by omega⟩, ⟨?_, ?_, h6⟩, ⟨?_, ?_, n4.2.2⟩⟩, kC (fun k hk => o k (by omega) (by omega) (by omega) (by omega)) hC, kP (fun k hk => o k (by omega) (by omega) (by omega) (by omega)) hP, ?_, kY (fun k hk => o k (by omega) (by omega) (by omega) (by omega)) hY, kI (fun k hk => o k (by omega) (by omega) (by omega) (by omega)) hI', kB (o 130 (by omega) (by omega) (by omega) (by omega)) hB, kF (fun c hc => o _ (by omega) (by omega) (by omega) (by omega)) (o 140 (by omega) (by omega) (by omega) (by omega)) hF, kK h12 (fun k h1 h2 => o k (by omega) (by omega) (by omega) (by omega)) (fun k h1 h2 => o k (by omega) (by omega) (by omega) (by omega)) hK, kA h12 (fun k h1 h2 => o k (by omega) (by omega) (by omega) (by omega)) hA⟩
          · rw [o 1 (by omega) (by omega) (by omega) (by omega)]; exact n1.1
          · rw [o117 13 (by omega) (by omega)]; exact n1.2.1
          · rw [zu_o (by omega), zu_o (by omega), zu_o (by omega), zu_o (by omega), zu_o (by omega), zu_o (by omega), hμ1, zu_s]
          · rw [o 7 (by omega) (by omega) (by omega) (by omega)]; exact n3.1
          · rw [o117 5 (by omega) (by omega)]; exact n3.2.1
          · rw [o 21 (by omega) (by omega) (by omega) (by omega)]; exact n4.1
          · rw [o117 23 (by omega) (by omega)]; exact n4.2.1
          · subst hμ1
            intro i hi
            show ((if i = nr then nI f else μ 11 i) = nI (if i = nr then f else rf i) ∧ (if i = nr then nI t else μ 12 i) = nI (if i = nr then t else rt i) ∧ (if i = nr then f else rf i) < 24 ∧ (if i = nr then t else rt i) < 24) ∧ ((if i = nr then nI f else μ 124 i) = nI (if i = nr then f else rf i) ∧ (if i = nr then nI t else μ 125 i) = nI (if i = nr then t else rt i)) ∧ ((if i = nr then X else μ 13 i) = (if i = nr then X else μ 126 i) ∧ (if i = nr then Y else μ 14 i) = (if i = nr then Y else μ 127 i)) ∧ rb 1690 (if i = nr then X else μ 13 i) ∧ rb 1690 (if i = nr then Y else μ 14 i)
            by_cases e9 : i = nr
            · simp only [if_pos e9]
              exact ⟨⟨by simp, by simp, hf, ht⟩, ⟨by simp, by simp⟩, ⟨by simp, by simp⟩, bx, by9⟩
            · simp only [if_neg e9]
              exact hL i (by omega)
      · right; right; right
        refine ⟨zu μ 117 0 (nI 3), nI 0, fun g => ?_, fun g => ?_, zu_s, zInv_t hI⟩
        · have h := ct_X7_report (E := E) (μ := μ) (g := g) n3.1 h6 n2.1 h60 hq hf ht
          rw [if_neg e, if_pos hr] at h
          exact h
        · have h := ct_X8_report (E := E) (μ := μ) (g := g) n3.2.1 h6 n2.2.1 h60 hq hf ht
          rw [if_neg e, if_pos hr] at h
          exact h
  · right; left
    exact ⟨_, _, fun g => ctx_X7_report n3.1 h6 hb, fun g => ctx_X8_report n3.2.1 h6 hb, zu_s, zInv_t hI⟩
/-! island -/
theorem za_island {E : Nat × (Nat → Int32)} {μ : zMu} {x1 x2 x3 x4 x5 : Int32} (hI : zInv μ) : zAll zInv E μ x1 x2 x3 x4 x5 8 := by
  obtain ⟨nc, nr, np, ni, rf, rt, hN, hC, hP, hL, hY, hI', hB, hF, hK, hA⟩ := id hI
  obtain ⟨n1, n2, n3, n4⟩ := hN
  have h12 := n1.2.2
  have h20 := n4.2.2
  rcases zrg_cases nc (by omega) x1 with hb | ⟨c, hc, rfl⟩
  · right; left
    exact ⟨_, _, fun g => ctx_X7_island n1.1 h12 hb, fun g => ctx_X8_island n1.2.1 h12 n4.2.1 h20 hb, zu_s, zInv_t hI⟩
  · by_cases hz : zin x2 (nI 999) ∧ zin x3 (nI 999)
    · by_cases hi : ni < 20
      · left
        obtain ⟨μ1, hμ1⟩ : ∃ μ1, μ1 = zu (zu (zu (zu (zu μ 22 ni x2) 23 ni x3) 24 ni (nI c)) 21 3 (nI (ni + 1))) (39 + 7 * c) ni (nI 1) := ⟨_, rfl⟩
        have o1 : ∀ k, (k < 21 ∨ 24 < k) → k ≠ 39 + 7 * c → μ1 k = μ k := fun k q1 q2 => by rw [hμ1, zu_r (by omega), zu_r (by omega), zu_r (by omega), zu_r (by omega), zu_r (by omega)]
        have p1 : ∀ k j, k ≠ 21 → j ≠ ni → μ1 k j = μ k j := fun k j q1 q2 => by rw [hμ1, zu_o2 q2, zu_o q1, zu_o2 q2, zu_o2 q2, zu_o2 q2]
        obtain ⟨ν, hν⟩ : ∃ ν, ν = zu (zu (zu (zu (zu (zu μ1 117 0 (nI 0)) 137 ni x2) 138 ni x3) 139 ni (nI c)) 140 (20 * c + ni) (nI 1)) 117 23 (nI (ni + 1)) := ⟨_, rfl⟩
        have oν : ∀ k, k ≠ 117 → (k < 137 ∨ 140 < k) → ν k = μ1 k := fun k q1 q2 => by rw [hν, zu_r (by omega), zu_r (by omega), zu_r (by omega), zu_r (by omega), zu_r (by omega), zu_r (by omega)]
        have pν : ∀ k j, k ≠ 117 → k ≠ 140 → j ≠ ni → ν k j = μ1 k j := fun k j q1 q2 q3 => by rw [hν, zu_o q1, zu_o q2, zu_o2 q3, zu_o2 q3, zu_o2 q3, zu_o q1]
        have o : ∀ k, (k < 21 ∨ 24 < k) → k ≠ 39 + 7 * c → k ≠ 117 → (k < 137 ∨ 140 < k) → ν k = μ k := fun k q1 q2 q3 q4 => (oν k q3 q4).trans (o1 k q1 q2)
        have o117 : ∀ j, j ≠ 0 → j ≠ 23 → ν 117 j = μ 117 j := fun j q1 q2 => by rw [hν, zu_o2 q2, zu_o (by omega), zu_o (by omega), zu_o (by omega), zu_o (by omega), zu_o2 q1, o1 117 (by omega) (by omega)]
        refine ⟨μ1, ν, nI ni, fun g => ?_, fun g => ?_, ?_, ?_⟩
        · have h := ct_X7_island (E := E) (μ := μ) (g := g) n1.1 h12 n4.1 h20 hc (x := x2) (y := x3)
          rw [if_neg (fun q => q hz), if_neg (fun q => q hi), ← hμ1] at h
          exact h
        · have h := ct_X8_island (E := E) (μ := μ1) (g := g) (nc := nc) (ni := ni) (by rw [o1 117 (by omega) (by omega)]; exact n1.2.1) h12 (by rw [o1 117 (by omega) (by omega)]; exact n4.2.1) h20 hc (x := x2) (y := x3)
          rw [if_neg (fun q => q hz), if_neg (fun q => q hi), ← hν] at h
          exact h
        · rw [hν, zu_o2 (by omega), zu_o (by omega), zu_o (by omega), zu_o (by omega), zu_o (by omega), zu_s]
        · refine ⟨nc, nr, np, ni + 1, rf, rt, ⟨⟨?_, ?_, h12⟩, ⟨?_, ?_, n2.2.2⟩, ⟨?_, ?_, n3.2.2⟩, ⟨?_, ?_, by omega⟩⟩, kC (fun k hk => o k (by omega) (by omega) (by omega) (by omega)) hC, kP (fun k hk => o k (by omega) (by omega) (by omega) (by omega)) hP, kL (fun k hk => o k (by omega) (by omega) (by omega) (by omega)) hL, kY (fun k hk => o k (by omega) (by omega) (by omega) (by omega)) hY, ?_, kB (o 130 (by omega) (by omega) (by omega) (by omega)) hB, ?_, ?_, ?_⟩
          · rw [o 1 (by omega) (by omega) (by omega) (by omega)]; exact n1.1
          · rw [o117 13 (by omega) (by omega)]; exact n1.2.1
          · rw [o 10 (by omega) (by omega) (by omega) (by omega)]; exact n2.1
          · rw [o117 8 (by omega) (by omega)]; exact n2.2.1
          · rw [o 7 (by omega) (by omega) (by omega) (by omega)]; exact n3.1
          · rw [o117 5 (by omega) (by omega)]; exact n3.2.1
          · rw [oν 21 (by omega) (by omega), hμ1, zu_o (by omega), zu_s]
          · rw [hν, zu_s]
          · intro i hi9
            by_cases e : i = ni
            · subst e
              refine ⟨?_, ?_, ?_⟩
              · rw [oν 22 (by omega) (by omega), hμ1, hν, zu_o (by omega), zu_o (by omega), zu_o (by omega), zu_o (by omega), zu_s, zu_o (by omega), zu_o (by omega), zu_o (by omega), zu_o (by omega), zu_s]
              · rw [oν 23 (by omega) (by omega), hμ1, hν, zu_o (by omega), zu_o (by omega), zu_o (by omega), zu_s, zu_o (by omega), zu_o (by omega), zu_o (by omega), zu_s]
              · rw [oν 24 (by omega) (by omega), hμ1, hν, zu_o (by omega), zu_o (by omega), zu_s, zu_o (by omega), zu_o (by omega), zu_s]
            · rw [pν 22 i (by omega) (by omega) e, pν 23 i (by omega) (by omega) e, pν 24 i (by omega) (by omega) e, pν 137 i (by omega) (by omega) e, pν 138 i (by omega) (by omega) e, pν 139 i (by omega) (by omega) e, p1 22 i (by omega) e, p1 23 i (by omega) e, p1 24 i (by omega) e, p1 137 i (by omega) e, p1 138 i (by omega) e, p1 139 i (by omega) e]
              exact hI' i hi9
          · intro c2 hc2 i hi9
            obtain ⟨f1, f2, f3⟩ := hF c2 hc2 i hi9
            by_cases e : c2 = c ∧ i = ni
            · obtain ⟨rfl, rfl⟩ := e
              have a1 : ν (39 + 7 * c2) i = nI 1 := by rw [oν _ (by omega) (by omega), hμ1, zu_s]
              have a2 : ν 140 (20 * c2 + i) = nI 1 := by rw [hν, zu_o (by omega), zu_s]
              rw [a1, a2]
              exact ⟨rfl, Or.inr rfl, fun q => absurd q (by omega)⟩
            · have a2 : ν 140 (20 * c2 + i) = μ 140 (20 * c2 + i) := by rw [hν, zu_o (by omega), zu_o2 (by omega), zu_o (by omega), zu_o (by omega), zu_o (by omega), zu_o (by omega), o1 140 (by omega) (by omega)]
              have a1 : ν (39 + 7 * c2) i = μ (39 + 7 * c2) i := by
                rw [oν _ (by omega) (by omega)]
                by_cases e2 : c2 = c
                · exact p1 _ _ (by omega) (fun q => e ⟨e2, q⟩)
                · rw [o1 _ (by omega) (by omega)]
              rw [a1, a2]
              exact ⟨f1, f2, fun q => f3 (by omega)⟩
          · intro c2 hc2
            obtain ⟨a1, a2, a3⟩ := hK c2 hc2
            refine ⟨?_, fun b hb => ?_, fun r hr => ?_⟩
            · rw [o (33 + 7 * c2) (by omega) (by omega) (by omega) (by omega), o 128 (by omega) (by omega) (by omega) (by omega)]
              exact a1
            · rw [o (38 + 7 * c2) (by omega) (by omega) (by omega) (by omega), o 129 (by omega) (by omega) (by omega) (by omega)]
              exact a2 b hb
            · refine rQ_v (Nat.le_refl _) ?_ ?_ ?_ ?_ (fun k q1 q2 => by rw [o k (by omega) (by omega) (by omega) (by omega)]) (a3 r hr)
              · rw [o (34 + 7 * c2) (by omega) (by omega) (by omega) (by omega)]
              · rw [o (35 + 7 * c2) (by omega) (by omega) (by omega) (by omega)]
              · rw [o (36 + 7 * c2) (by omega) (by omega) (by omega) (by omega)]
              · rw [o (37 + 7 * c2) (by omega) (by omega) (by omega) (by omega)]
          · exact rA_s (fun c2 hc2 p hp => Or.inl (by rw [o (37 + 7 * c2) (by omega) (by omega) (by omega) (by omega)])) hA
      · right; right; right
        refine ⟨zu μ 117 0 (nI 3), nI 0, fun g => ?_, fun g => ?_, zu_s, zInv_t hI⟩
        · have h := ct_X7_island (E := E) (μ := μ) (g := g) n1.1 h12 n4.1 h20 hc (x := x2) (y := x3)
          rw [if_neg (fun q => q hz), if_pos hi] at h
          exact h
        · have h := ct_X8_island (E := E) (μ := μ) (g := g) n1.2.1 h12 n4.2.1 h20 hc (x := x2) (y := x3)
          rw [if_neg (fun q => q hz), if_pos hi] at h
          exact h
    · right; right; left
      refine ⟨zu μ 117 0 (nI 2), nI 0, fun g => ?_, fun g => ?_, zu_s, zInv_t hI⟩
      · have h := ct_X7_island (E := E) (μ := μ) (g := g) n1.1 h12 n4.1 h20 hc (x := x2) (y := x3)
        rw [if_pos hz] at h
        exact h
      · have h := ct_X8_island (E := E) (μ := μ) (g := g) n1.2.1 h12 n4.2.1 h20 hc (x := x2) (y := x3)
        rw [if_pos hz] at h
        exact h
