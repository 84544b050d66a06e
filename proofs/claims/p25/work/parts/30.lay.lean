/-! the layout once all is made, and rows over it -/
def zκa : List (Nat × Nat) := [(9, 0), (0, 7), (0, 1), (1, 24), (1, 24), (1, 24), (1, 24), (0, 5), (1, 6), (1, 6), (0, 4), (1, 60), (1, 60), (1, 60), (1, 60), (0, 6), (1, 24), (1, 24), (1, 24), (5, 4), (4, 12), (0, 3), (1, 20), (1, 20), (1, 20)]
def zκc : List (Nat × Nat) := [(0, 0), (1, 24), (1, 24), (1, 24), (1, 24), (1, 3), (2, 20)]
def zκ (k : Nat) : Nat × Nat := if k < 25 then zκa.getD k (9, 0) else if k < 33 then (if (k - 25) % 2 = 0 then (0, 2) else (1, 100)) else if k < 117 then zκc.getD ((k - 33) % 7) (9, 0) else (9, 0)
def zρ (k j : Nat) : Nat :=
  if k = 1 then [2, 7, 10, 15, 19, 20, 21, 0].getD j 0 else if k = 2 then [3, 4, 5, 6].getD j 0 else if k = 7 then [8, 9, 0].getD j 0 else if k = 10 then [11, 12, 13, 14, 0].getD j 0 else if k = 15 then [16, 17, 18].getD j 0
  else if k = 19 then 25 + 2 * j else if k = 20 then 33 + 7 * j else if k = 21 then [22, 23, 24, 0].getD j 0
  else if k < 33 then (if j = 1 then k + 1 else 0) else if j = 0 then 0 else k + j
abbrev zm (μ : Nat → Nat → Int32) (g : zLw) : zM := (μ, zρ, zκ, 116, false, g)
theorem zl_ch {c : Nat} (h : c < 12) : zκ (33 + 7 * c) = (0, 0) ∧ zκ (34 + 7 * c) = (1, 24) ∧ zκ (35 + 7 * c) = (1, 24) ∧ zκ (36 + 7 * c) = (1, 24) ∧ zκ (37 + 7 * c) = (1, 24) ∧ zκ (38 + 7 * c) = (1, 3) ∧ zκ (39 + 7 * c) = (2, 20) :=
  (by decide : ∀ c, c < 12 → zκ (33 + 7 * c) = (0, 0) ∧ zκ (34 + 7 * c) = (1, 24) ∧ zκ (35 + 7 * c) = (1, 24) ∧ zκ (36 + 7 * c) = (1, 24) ∧ zκ (37 + 7 * c) = (1, 24) ∧ zκ (38 + 7 * c) = (1, 3) ∧ zκ (39 + 7 * c) = (2, 20)) c h
theorem zl_cy {c : Nat} (h : c < 4) : zκ (25 + 2 * c) = (0, 2) ∧ zκ (26 + 2 * c) = (1, 100) :=
  (by decide : ∀ c, c < 4 → zκ (25 + 2 * c) = (0, 2) ∧ zκ (26 + 2 * c) = (1, 100)) c h
theorem zl_rc {c : Nat} (h : c < 12) : zρ (33 + 7 * c) 1 = 34 + 7 * c ∧ zρ (33 + 7 * c) 2 = 35 + 7 * c ∧ zρ (33 + 7 * c) 3 = 36 + 7 * c ∧ zρ (33 + 7 * c) 4 = 37 + 7 * c ∧ zρ (33 + 7 * c) 5 = 38 + 7 * c ∧ zρ (33 + 7 * c) 6 = 39 + 7 * c :=
  (by decide : ∀ c, c < 12 → zρ (33 + 7 * c) 1 = 34 + 7 * c ∧ zρ (33 + 7 * c) 2 = 35 + 7 * c ∧ zρ (33 + 7 * c) 3 = 36 + 7 * c ∧ zρ (33 + 7 * c) 4 = 37 + 7 * c ∧ zρ (33 + 7 * c) 5 = 38 + 7 * c ∧ zρ (33 + 7 * c) 6 = 39 + 7 * c) c h
theorem zl_ry {c : Nat} (h : c < 4) : zρ (25 + 2 * c) 1 = 26 + 2 * c := (by decide : ∀ c, c < 4 → zρ (25 + 2 * c) 1 = 26 + 2 * c) c h
theorem zl_a {μ : Nat → Nat → Int32} {g : zLw} {k : Nat} {x : Nat × Nat} (h : zκ k = x) (h2 : (decide (0 < k) && decide (k ≤ 116)) = true) : zAt (zm μ g) k x := by
  simp only [Bool.and_eq_true, decide_eq_true_eq] at h2
  exact ⟨h, h2.1, h2.2⟩
theorem zl_b {μ : Nat → Nat → Int32} {g : zLw} {k : Nat} {x : Nat × Nat} (h : zκ k = x) (h2 : 0 < k) (h3 : k ≤ 116) : zAt (zm μ g) k x := ⟨h, h2, h3⟩
section ZL
variable {μ : Nat → Nat → Int32} {g : zLw} {c : Nat}
theorem zc0 (h : c < 12) : zAt (zm μ g) (33 + 7 * c) (0, 0) := zl_b (zl_ch h).1 (by omega) (by omega)
theorem zc1 (h : c < 12) : zAt (zm μ g) (34 + 7 * c) (1, 24) := zl_b (zl_ch h).2.1 (by omega) (by omega)
theorem zc2 (h : c < 12) : zAt (zm μ g) (35 + 7 * c) (1, 24) := zl_b (zl_ch h).2.2.1 (by omega) (by omega)
theorem zc3 (h : c < 12) : zAt (zm μ g) (36 + 7 * c) (1, 24) := zl_b (zl_ch h).2.2.2.1 (by omega) (by omega)
theorem zc4 (h : c < 12) : zAt (zm μ g) (37 + 7 * c) (1, 24) := zl_b (zl_ch h).2.2.2.2.1 (by omega) (by omega)
theorem zc5 (h : c < 12) : zAt (zm μ g) (38 + 7 * c) (1, 3) := zl_b (zl_ch h).2.2.2.2.2.1 (by omega) (by omega)
theorem zc6 (h : c < 12) : zAt (zm μ g) (39 + 7 * c) (2, 20) := zl_b (zl_ch h).2.2.2.2.2.2 (by omega) (by omega)
theorem zy0 (h : c < 4) : zAt (zm μ g) (25 + 2 * c) (0, 2) := zl_b (zl_cy h).1 (by omega) (by omega)
theorem zy1 (h : c < 4) : zAt (zm μ g) (26 + 2 * c) (1, 100) := zl_b (zl_cy h).2 (by omega) (by omega)
end ZL
/-- a truth value as an int -/
def zb (p : Prop) [Decidable p] : Int32 := if p then 1 else 0
theorem zb_0 {p : Prop} [Decidable p] : zb p = 0 ↔ ¬ p := by
  unfold zb
  by_cases h : p
  · simp [h]
  · simp [h]
theorem zb_n {p : Prop} [Decidable p] : ¬ zb p = 0 ↔ p := by rw [zb_0, Classical.not_not]
theorem zb_t {p : Prop} [Decidable p] (h : p) : zb p = 1 := if_pos h
theorem zb_f {p : Prop} [Decidable p] (h : ¬ p) : zb p = 0 := if_neg h
theorem zb_nar (p : Prop) [Decidable p] : narrow .boolean (.int (zb p)) = .int (zb p) := by
  unfold zb
  by_cases h : p
  · simp [h]; rfl
  · simp [h]; rfl
theorem zb_or (p : Prop) [Decidable p] : zb p = 0 ∨ zb p = 1 := by
  by_cases h : p
  · exact Or.inr (zb_t h)
  · exact Or.inl (zb_f h)
theorem zb_cong {p q : Prop} [Decidable p] [Decidable q] (h : p ↔ q) : zb p = zb q := by
  by_cases h9 : p
  · rw [zb_t h9, zb_t (h.mp h9)]
  · rw [zb_f h9, zb_f (fun a => h9 (h.mpr a))]
theorem znarI (x : Int32) : narrow .int (.int x) = .int x := rfl
section ZP
variable {F : Bool} {E : Nat × (Nat → Int32)} {K K9 : zK} {n0 : Nat} {o : zO} {pc : Nat} {ls sk : List Value} {μ : Nat → Nat → Int32} {g : zLw} {u us : Nat}
theorem m_getI {idx ci j k : Nat} (hf : zF (zKy K).cls idx ci j) (hk : zAt (zm μ g) k (0, ci)) (hi : (zfl ci).getD j true = true) (d : decode (zKc K) pc = .ok (.getfield idx, 3))
    (kk : zV F E K n0 o (pc + 3) ls (.int (μ k j) :: sk) (zm μ g) u us) : zV F E K n0 o pc ls (.ref k :: sk) (zm μ g) u us := z_getI hf hk hi d kk
theorem m_getR {idx ci j k : Nat} (k1 : Nat) (hf : zF (zKy K).cls idx ci j) (hk : zAt (zm μ g) k (0, ci)) (hi : (zfl ci).getD j true = false) (hr : zρ k j = k1) (h1 : 0 < k1) (d : decode (zKc K) pc = .ok (.getfield idx, 3))
    (kk : zV F E K n0 o (pc + 3) ls (.ref k1 :: sk) (zm μ g) u us) : zV F E K n0 o pc ls (.ref k :: sk) (zm μ g) u us := z_getR k1 hf hk hi hr h1 d kk
theorem m_putI {idx ci j k : Nat} {x : Int32} (hf : zF (zKy K).cls idx ci j) (hk : zAt (zm μ g) k (0, ci)) (hi : (zfl ci).getD j true = true) (d : decode (zKc K) pc = .ok (.putfield idx, 3))
    (kk : zV F E K n0 o (pc + 3) ls sk (zm (zu μ k j x) g) u us) : zV F E K n0 o pc ls (.int x :: .ref k :: sk) (zm μ g) u us := z_putI hf hk hi d kk
theorem m_ix {i : Int32} {j n : Nat} (hi : i = nI j) (hj : j < n) (hn : n ≤ 1000) : vp_in i n ∧ i.toNatClampNeg = j := by
  subst hi
  exact ⟨vp_in_nI hj (by omega), nI_clamp (by omega)⟩
theorem m_iald {n k : Nat} {i : Int32} (j : Nat) (hk : zAt (zm μ g) k (1, n)) (hi : i = nI j) (hj : j < n) (hn : n ≤ 1000) (d : decode (zKc K) pc = .ok (.iaload, 1))
    (kk : zV F E K n0 o (pc + 1) ls (.int (μ k j) :: sk) (zm μ g) u us) : zV F E K n0 o pc ls (.int i :: .ref k :: sk) (zm μ g) u us := by
  obtain ⟨h1, h2⟩ := m_ix hi hj hn
  exact z_iald hk h1 d (by rw [h2]; exact kk)
theorem m_zald {n k : Nat} {i : Int32} (j : Nat) (hk : zAt (zm μ g) k (2, n)) (hi : i = nI j) (hj : j < n) (hn : n ≤ 1000) (d : decode (zKc K) pc = .ok (.baload, 1))
    (kk : zV F E K n0 o (pc + 1) ls (.int (μ k j) :: sk) (zm μ g) u us) : zV F E K n0 o pc ls (.int i :: .ref k :: sk) (zm μ g) u us := by
  obtain ⟨h1, h2⟩ := m_ix hi hj hn
  exact z_zald hk h1 d (by rw [h2]; exact kk)
theorem m_aald {n k t : Nat} {i : Int32} (j k1 : Nat) (ht : t = 4 ∨ t = 5) (hk : zAt (zm μ g) k (t, n)) (hi : i = nI j) (hj : j < n) (hn : n ≤ 1000) (hr : zρ k j = k1) (h0 : 0 < k1) (d : decode (zKc K) pc = .ok (.aaload, 1))
    (kk : zV F E K n0 o (pc + 1) ls (.ref k1 :: sk) (zm μ g) u us) : zV F E K n0 o pc ls (.int i :: .ref k :: sk) (zm μ g) u us := by
  obtain ⟨h1, h2⟩ := m_ix hi hj hn
  exact z_aald ht hk h1 (by rw [h2]; exact hr) h0 d kk
theorem m_iast {n k : Nat} {i x : Int32} (j : Nat) (hk : zAt (zm μ g) k (1, n)) (hi : i = nI j) (hj : j < n) (hn : n ≤ 1000) (d : decode (zKc K) pc = .ok (.iastore, 1))
    (kk : zV F E K n0 o (pc + 1) ls sk (zm (zu μ k j x) g) u us) : zV F E K n0 o pc ls (.int x :: .int i :: .ref k :: sk) (zm μ g) u us := by
  obtain ⟨h1, h2⟩ := m_ix hi hj hn
  exact z_iast hk h1 d (by rw [h2]; exact kk)
theorem m_zast {n k : Nat} {i x : Int32} (j : Nat) (hk : zAt (zm μ g) k (2, n)) (hi : i = nI j) (hj : j < n) (hn : n ≤ 1000) (hx : x = 0 ∨ x = 1) (d : decode (zKc K) pc = .ok (.bastore, 1))
    (kk : zV F E K n0 o (pc + 1) ls sk (zm (zu μ k j x) g) u us) : zV F E K n0 o pc ls (.int x :: .int i :: .ref k :: sk) (zm μ g) u us := by
  obtain ⟨h1, h2⟩ := m_ix hi hj hn
  exact z_zast hk h1 hx d (by rw [h2]; exact kk)
theorem m_addN {a b : Nat} {M : zM} (d : decode (zKc K) pc = .ok (.iadd, 1)) (kk : zV F E K n0 o (pc + 1) ls (.int (nI (a + b)) :: sk) M u us) : zV F E K n0 o pc ls (.int (nI b) :: .int (nI a) :: sk) M u us := z_iadd d (by rw [nI_add]; exact kk)
theorem m_mulN {a b : Nat} {M : zM} (d : decode (zKc K) pc = .ok (.imul, 1)) (kk : zV F E K n0 o (pc + 1) ls (.int (nI (a * b)) :: sk) M u us) : zV F E K n0 o pc ls (.int (nI b) :: .int (nI a) :: sk) M u us := z_imul d (by rw [pk_mul]; exact kk)
theorem m_subN {a b : Nat} {M : zM} (h : b ≤ a) (d : decode (zKc K) pc = .ok (.isub, 1)) (kk : zV F E K n0 o (pc + 1) ls (.int (nI (a - b)) :: sk) M u us) : zV F E K n0 o pc ls (.int (nI b) :: .int (nI a) :: sk) M u us := z_isub d (by rw [pk_sub h]; exact kk)
theorem zinc (a : Nat) : nI a + Int32.ofInt 1 = nI (a + 1) := nI_1 a
theorem zcn {n : Nat} (h : n < 2147483648) (m : Nat) (hm : m < 2147483648) : (nI n = nI m ↔ n = m) ∧ (nI n < nI m ↔ n < m) ∧ (nI n ≤ nI m ↔ n ≤ m) := ⟨nI_eq h hm, nI_ltI h hm, nI_leI h hm⟩
/-- a branch whose condition is said in other words -/
theorem z_br {c c' : Prop} {P : Prop} (h : c ↔ c') (k : c' → P) : c → P := fun q => k (h.mp q)
theorem z_brn {c c' : Prop} {P : Prop} (h : c ↔ c') (k : ¬ c' → P) : ¬ c → P := fun q => k (fun x => q (h.mpr x))
theorem m_eqv {v w : Int32} {M : zM} (h : v = w) (kk : zV F E K n0 o pc ls (.int w :: sk) M u us) : zV F E K n0 o pc ls (.int v :: sk) M u us := by rw [h]; exact kk
end ZP
