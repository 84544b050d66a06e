/-! rows over the law's own arrays; what its small methods answer (printed by wip/p25/gen_1.py) -/
section ZXR
variable {F : Bool} {E : Nat × (Nat → Int32)} {K : zK} {n0 : Nat} {o : zO} {pc : Nat} {ls sk : List Value} {μ : zMu} {J : Nat → Nat} {m : Nat} {ν : zMu} {u us : Nat}
theorem m_xald {i : Int32} (a j N : Nat) (hN : zlen a = N) (ha : a < m) (hi : i = nI j) (hj : j < N) (hn : N ≤ 1000) (d : decode (zKc K) pc = .ok (.iaload, 1))
    (kk : zV F E K n0 o (pc + 1) ls (.int (ν a j) :: sk) (zm μ (J, m, ν)) u us) : zV F E K n0 o pc ls (.int i :: .ref (J a) :: sk) (zm μ (J, m, ν)) u us := by
  obtain ⟨h1, h2⟩ := m_ix hi hj hn
  exact z_xald a rfl ha (by rw [hN]; exact h1) d (by rw [h2]; exact kk)
theorem m_xast {i x : Int32} (a j N : Nat) (hN : zlen a = N) (ha : a < m) (hi : i = nI j) (hj : j < N) (hn : N ≤ 1000) (d : decode (zKc K) pc = .ok (.iastore, 1))
    (kk : zV F E K 0 o (pc + 1) ls sk (zm μ (J, m, zu ν a j x)) u us) : zV F E K 0 o pc ls (.int x :: .int i :: .ref (J a) :: sk) (zm μ (J, m, ν)) u us := by
  obtain ⟨h1, h2⟩ := m_ix hi hj hn
  exact z_xast a rfl ha (by rw [hN]; exact h1) rfl (Nat.le_of_ble_eq_true rfl) d (by rw [h2]; exact kk)
theorem nI_rem {a b : Nat} (ha : a < 2147483648) (hb : b < 2147483648) (h0 : 0 < b) : nI a - nI a / nI b * nI b = nI (a % b) := by
  have h1 : a / b * b ≤ a := Nat.div_mul_le_self a b
  have h2 : nI a / nI b = nI (a / b) := by
    apply Int32.toInt_inj.mp
    rw [Int32.toInt_div_of_ne_right _ _ (fun q => znm1 hb q.symm), nI_toInt ha, nI_toInt hb, nI_toInt (Nat.lt_of_le_of_lt (Nat.div_le_self a b) ha)]
    rfl
  rw [h2, pk_mul, pk_sub h1]
  congr 1
  rw [Nat.mod_eq_sub, Nat.mul_comm]
theorem m_remN {a b : Nat} {M : zM} (ha : a < 2147483648) (hb : b < 2147483648) (h0 : 0 < b) (d : decode (zKc K) pc = .ok (.irem, 1)) (kk : zV F E K n0 o (pc + 1) ls (.int (nI (a % b)) :: sk) M u us) : zV F E K n0 o pc ls (.int (nI b) :: .int (nI a) :: sk) M u us :=
  z_irem (fun h => by have := (z0e hb).mp h; omega) d (by rw [nI_rem ha hb h0]; exact kk)
theorem zincN (a n : Nat) : nI a + Int32.ofInt n = nI (a + n) := nI_add a n
end ZXR
theorem zlow_ex (v : Int32) {n : Nat} (h0 : 0 < n) (hn : n < 2147483648) : ∃ k, k < n ∧ (v &&& 2147483647) - (v &&& 2147483647) / nI n * nI n = nI k := by
  have h1 : ¬ (v &&& 2147483647) < 0 := by
    intro h
    have h2 := Int32.lt_iff_toInt_lt.mp h
    have h3 : (v &&& 2147483647).toBitVec.toNat ≤ 2147483647 := by
      rw [Int32.toBitVec_and, BitVec.toNat_and]
      exact Nat.and_le_right
    have h4 : (v &&& 2147483647).toInt = ((v &&& 2147483647).toBitVec.toNat : Int) := BitVec.toInt_eq_toNat_of_lt (by omega)
    rw [h4] at h2
    have h5 : (0 : Int32).toInt = 0 := rfl
    omega
  obtain ⟨j, hj, e⟩ := nI_of h1
  exact ⟨j % n, Nat.mod_lt j h0, by rw [e, nI_rem hj hn h0]⟩
noncomputable def wN (P : Prop) : Nat := @ite Nat P (Classical.propDecidable P) 1 0
theorem wN_t {P : Prop} (h : P) : wN P = 1 := if_pos h
theorem wN_f {P : Prop} (h : ¬ P) : wN P = 0 := if_neg h
theorem wN_c {P Q : Prop} (h : P ↔ Q) : wN P = wN Q := by
  by_cases p : P
  · rw [wN_t p, wN_t (h.mp p)]
  · rw [wN_f p, wN_f (fun q => p (h.mpr q))]
theorem wN_le (P : Prop) : wN P ≤ 1 := by
  by_cases p : P
  · rw [wN_t p]; exact Nat.le_refl 1
  · rw [wN_f p]; exact Nat.zero_le 1
/-- what the law counts as shared: errors, names, islands -/
def sP (ν : zMu) (a b p : Nat) : Prop := ¬ ν 3 (10 * a + p) ≤ -2 ∧ ¬ ν 3 (10 * b + p) ≤ -2 ∧ ν 0 (10 * a + p) = ν 0 (10 * b + p) ∧ ν 1 (10 * a + p) = ν 1 (10 * b + p) ∧ (¬ ν 0 (10 * a + p) = ν 4 p ∨ ¬ ν 1 (10 * a + p) = ν 4 (10 + p))
def sQ (ν : zMu) (a b p : Nat) : Prop := ν 2 (10 * a + p) = ν 2 (10 * b + p) ∧ ¬ ν 2 (10 * a + p) = ν 4 (20 + p)
noncomputable def sC (ν : zMu) (a b l : Nat) : Nat → Nat
  | 0 => 0
  | n + 1 => sC ν a b l n + wN (sP ν a b (l + n)) + wN (sQ ν a b (l + n))
noncomputable def sI (ν : zMu) (a b : Nat) : Nat → Nat
  | 0 => 0
  | n + 1 => sI ν a b n + wN (sbit (ν 5 n) a ∧ sbit (ν 5 n) b)
theorem sC_le (ν : zMu) (a b l : Nat) : ∀ n, sC ν a b l n ≤ 2 * n
  | 0 => Nat.le_refl 0
  | n + 1 => by
    have h1 := sC_le ν a b l n
    have h2 := wN_le (sP ν a b (l + n))
    have h3 := wN_le (sQ ν a b (l + n))
    show sC ν a b l n + wN _ + wN _ ≤ _
    omega
theorem sI_le (ν : zMu) (a b : Nat) : ∀ n, sI ν a b n ≤ n
  | 0 => Nat.le_refl 0
  | n + 1 => by
    have h1 := sI_le ν a b n
    have h2 := wN_le (sbit (ν 5 n) a ∧ sbit (ν 5 n) b)
    show sI ν a b n + wN _ ≤ _
    omega
set_option maxRecDepth 100000 in
set_option maxHeartbeats 4000000 in
theorem ct_L_cell {E : Nat × (Nat → Int32)} {μ : zMu} {J : Nat → Nat} {m : Nat} {ν : zMu} (hE : E.1 ≤ 260) {k : Nat} (hk : k < 1000000) : ∃ v, zCt E kL_cell [.ref (0), .int (nI k)] (zm μ (J, m, ν)) (.inl (some (.int v)), zm μ (J, m, ν)) := by
  by_cases hk2 : k < E.1
  · refine ⟨E.2 (nI k).toNatClampNeg, ?_⟩
    refine zCt_of ko_L_cell (Nat.le_of_ble_eq_true rfl) (zas_r (zas_i zas_0)) ⟨Nat.le_refl _, fun h => absurd h (Nat.lt_irrefl _)⟩ (Nat.le_of_ble_eq_true rfl) ?_
    show zV false E kL_cell 116 _ 0 [.ref (0), .int (nI k)] [] (zm μ (J, m, ν)) 0 0
    refine z_iload_n rfl rfl dL_cell_0 ?_
    refine z_aload_n rfl rfl dL_cell_1 ?_
    refine z_slen dL_cell_2 ?_
    refine z_icmp_ge 12 (by decide) dL_cell_3 (fun h3t => ((absurd h3t (fun q => absurd ((nI_leI (a := E.1) (b := k) (by omega) (by omega)).mp q) (by omega)) : False)).elim) (fun h3f => ?_)
    refine z_aload_n rfl rfl dL_cell_6 ?_
    refine z_iload_n rfl rfl dL_cell_7 ?_
    refine z_sld (vp_in_nI hk2 (by omega)) dL_cell_8 ?_
    refine z_goto 21 (by decide) dL_cell_9 ?_
    exact z_iret rfl rfl (znarI _) (by show 0 ≤ 0; omega) (by show 0 ≤ 0; omega) dL_cell_21
  · refine ⟨1000308309 * nI (k + 1) + 751363483, ?_⟩
    refine zCt_of ko_L_cell (Nat.le_of_ble_eq_true rfl) (zas_r (zas_i zas_0)) ⟨Nat.le_refl _, fun h => absurd h (Nat.lt_irrefl _)⟩ (Nat.le_of_ble_eq_true rfl) ?_
    show zV false E kL_cell 116 _ 0 [.ref (0), .int (nI k)] [] (zm μ (J, m, ν)) 0 0
    refine z_iload_n rfl rfl dL_cell_0 ?_
    refine z_aload_n rfl rfl dL_cell_1 ?_
    refine z_slen dL_cell_2 ?_
    refine z_icmp_ge 12 (by decide) dL_cell_3 (fun h3t => ?_) (fun h3f => ((absurd ((nI_leI (a := E.1) (b := k) (by omega) (by omega)).mpr (by omega)) h3f : False)).elim)
    refine z_ldc (1000308309) kc_L_7 dL_cell_12 ?_
    refine z_iload_n rfl rfl dL_cell_14 ?_
    refine z_iconst (nI 1) (by decide) dL_cell_15 ?_
    refine m_addN dL_cell_16 ?_
    refine z_imul dL_cell_17 ?_
    refine z_ldc (751363483) kc_L_8 dL_cell_18 ?_
    refine z_iadd dL_cell_20 ?_
    exact z_iret rfl rfl (znarI _) (by show 0 ≤ 0; omega) (by show 0 ≤ 0; omega) dL_cell_21
set_option maxRecDepth 100000 in
set_option maxHeartbeats 4000000 in
theorem ct_L_low {E : Nat × (Nat → Int32)} {μ : zMu} {J : Nat → Nat} {m : Nat} {ν : zMu} (v : Int32) {n : Nat} (h0 : 0 < n) (hn : n < 1000000) : ∃ k, k < n ∧ zCt E kL_low [.int (v), .int (nI n)] (zm μ (J, m, ν)) (.inl (some (.int (nI k))), zm μ (J, m, ν)) := by
  obtain ⟨k, hk, e⟩ := zlow_ex v h0 (by omega : n < 2147483648)
  refine ⟨k, hk, ?_⟩
  rw [← e]
  refine zCt_of ko_L_low (Nat.le_of_ble_eq_true rfl) (zas_i (zas_i zas_0)) ⟨Nat.le_refl _, fun h => absurd h (Nat.lt_irrefl _)⟩ (Nat.le_of_ble_eq_true rfl) ?_
  show zV false E kL_low 116 _ 0 [.int (v), .int (nI n)] [] (zm μ (J, m, ν)) 0 0
  refine z_iload_n rfl rfl dL_low_0 ?_
  refine z_ldc (2147483647) kc_L_9 dL_low_1 ?_
  refine z_iand dL_low_3 ?_
  refine z_iload_n rfl rfl dL_low_4 ?_
  refine z_irem (fun h => by have := (z0e (n := n) (by omega)).mp h; omega) dL_low_5 ?_
  exact z_iret rfl rfl (znarI _) (by show 0 ≤ 0; omega) (by show 0 ≤ 0; omega) dL_low_6
set_option maxRecDepth 100000 in
set_option maxHeartbeats 4000000 in
theorem ct_L_size {E : Nat × (Nat → Int32)} {μ : zMu} {J : Nat → Nat} {m : Nat} {ν : zMu} (v : Int32) : zCt E kL_size [.int (v)] (zm μ (J, m, ν)) (.inl (some (.int (zab v))), zm μ (J, m, ν)) := by
  refine zCt_of ko_L_size (Nat.le_of_ble_eq_true rfl) (zas_i zas_0) ⟨Nat.le_refl _, fun h => absurd h (Nat.lt_irrefl _)⟩ (Nat.le_of_ble_eq_true rfl) ?_
  show zV false E kL_size 116 _ 0 [.int (v)] [] (zm μ (J, m, ν)) 0 0
  refine z_iload_n rfl rfl dL_size_0 ?_
  refine z_if_ge 9 (by decide) dL_size_1 (fun h1t => ?_) (fun h1f => ?_)
  · refine z_iload_n rfl rfl dL_size_9 ?_
    exact z_iret (by rw [zab, if_pos h1t]) rfl (znarI _) (by show 0 ≤ 0; omega) (by show 0 ≤ 0; omega) dL_size_10
  · refine z_iload_n rfl rfl dL_size_4 ?_
    refine z_ineg dL_size_5 ?_
    refine z_goto 10 (by decide) dL_size_6 ?_
    exact z_iret (by rw [zab, if_neg h1f]; congr 3) rfl (znarI _) (by show 0 ≤ 0; omega) (by show 0 ≤ 0; omega) dL_size_10
set_option maxRecDepth 100000 in
set_option maxHeartbeats 4000000 in
theorem lp_L_sh2 {E : Nat × (Nat → Int32)} {μ : zMu} {J : Nat → Nat} {m : Nat} {ν : zMu} {o : zO} {a b bs N : Nat} (ha : a < 5) (hb : b < 5) (hN : bs = 0 ∧ N = 8 ∨ bs = 1 ∧ N = 2) (h11 : 5 < m) {C : Nat} (ho : o = (.inl (some (.int (nI (C + sI ν a b 4)))), zm μ (J, m, ν))) : ∀ (n : Nat) (i k : Nat), 4 - i = n → i ≤ 4 → k = C + sI ν a b i → zV false E kL_shared 116 o 158 [.ref (J 0), .ref (J 1), .ref (J 2), .ref (J 3), .ref (J 4), .ref (J 5), .int (nI a), .int (nI b), .int (nI bs), .int (nI k), .int (nI i), .null, .null] [] (zm μ (J, m, ν)) 0 0 := by
  intro n
  induction n using Nat.strongRecOn with
  | ind n ih =>
    intro i k e h4 hk
    refine z_iload rfl dL_shared_158 ?_
    refine z_iconst (nI 4) (by decide) dL_shared_160 ?_
    refine z_icmp_ge 201 (by decide) dL_shared_161 (z_br (zcn (n := 4) (by omega) (i) (by omega)).2.2 (fun h161t => ?_)) (z_brn (zcn (n := 4) (by omega) (i) (by omega)).2.2 (fun h161f => ?_))
    · obtain rfl : i = 4 := by omega
      refine z_iload rfl dL_shared_201 ?_
      exact z_iret (ho.trans (by rw [← hk])) rfl (znarI _) (by decide) (by decide) dL_shared_203
    · refine z_aload rfl dL_shared_164 ?_
      refine z_iload rfl dL_shared_166 ?_
      refine m_xald 5 (i) 4 rfl (by omega) rfl (by omega) (by decide) dL_shared_168 ?_
      refine z_iload rfl dL_shared_169 ?_
      refine z_ishr dL_shared_171 ?_
      refine z_iconst (nI 1) (by decide) dL_shared_172 ?_
      refine z_iand dL_shared_173 ?_
      refine z_iconst (nI 1) (by decide) dL_shared_174 ?_
      refine z_icmp_ne 195 (by decide) dL_shared_175 (fun h175t => ?_) (fun h175f => ?_)
      · refine z_iinc (nI (i + 1)) rfl (zincN _ 1) (by decide) rfl dL_shared_195 ?_
        refine z_goto 158 (by decide) dL_shared_198 ?_
        exact ih (4 - (i + 1)) (by omega) (i + 1) (k) rfl (by omega) (by have q := wN_f (P := sbit (ν 5 i) a ∧ sbit (ν 5 i) b) (fun q => h175t q.1); show _ = C + (sI ν a b i + wN (sbit (ν 5 i) a ∧ sbit (ν 5 i) b)); omega)
      · refine z_aload rfl dL_shared_178 ?_
        refine z_iload rfl dL_shared_180 ?_
        refine m_xald 5 (i) 4 rfl (by omega) rfl (by omega) (by decide) dL_shared_182 ?_
        refine z_iload rfl dL_shared_183 ?_
        refine z_ishr dL_shared_185 ?_
        refine z_iconst (nI 1) (by decide) dL_shared_186 ?_
        refine z_iand dL_shared_187 ?_
        refine z_iconst (nI 1) (by decide) dL_shared_188 ?_
        refine z_icmp_ne 195 (by decide) dL_shared_189 (fun h189t => ?_) (fun h189f => ?_)
        · refine z_iinc (nI (i + 1)) rfl (zincN _ 1) (by decide) rfl dL_shared_195 ?_
          refine z_goto 158 (by decide) dL_shared_198 ?_
          exact ih (4 - (i + 1)) (by omega) (i + 1) (k) rfl (by omega) (by have q := wN_f (P := sbit (ν 5 i) a ∧ sbit (ν 5 i) b) (fun q => h189t q.2); show _ = C + (sI ν a b i + wN (sbit (ν 5 i) a ∧ sbit (ν 5 i) b)); omega)
        · refine z_iinc (nI (k + 1)) rfl (zincN _ 1) (by decide) rfl dL_shared_192 ?_
          refine z_iinc (nI (i + 1)) rfl (zincN _ 1) (by decide) rfl dL_shared_195 ?_
          refine z_goto 158 (by decide) dL_shared_198 ?_
          exact ih (4 - (i + 1)) (by omega) (i + 1) (k + 1) rfl (by omega) (by have q := wN_t (P := sbit (ν 5 i) a ∧ sbit (ν 5 i) b) ⟨h175f, h189f⟩; show _ = C + (sI ν a b i + wN (sbit (ν 5 i) a ∧ sbit (ν 5 i) b)); omega)
set_option maxRecDepth 100000 in
set_option maxHeartbeats 4000000 in
theorem lp_L_sh1 {E : Nat × (Nat → Int32)} {μ : zMu} {J : Nat → Nat} {m : Nat} {ν : zMu} {o : zO} {a b bs N : Nat} (ha : a < 5) (hb : b < 5) (hN : bs = 0 ∧ N = 8 ∨ bs = 1 ∧ N = 2) (h11 : 5 < m) (ho : o = (.inl (some (.int (nI (sC ν a b (8 * bs) N + sI ν a b 4)))), zm μ (J, m, ν))) : ∀ (n : Nat) (i k : Nat), N - i = n → i ≤ N → k = sC ν a b (8 * bs) i → zV false E kL_shared 116 o 10 [.ref (J 0), .ref (J 1), .ref (J 2), .ref (J 3), .ref (J 4), .ref (J 5), .int (nI a), .int (nI b), .int (nI bs), .int (nI k), .int (nI (8 * bs + i)), .null, .null] [] (zm μ (J, m, ν)) 0 0 := by
  intro n
  induction n using Nat.strongRecOn with
  | ind n ih =>
    intro i k e h4 hk
    refine z_iload rfl dL_shared_10 ?_
    refine z_bipush (nI 8) (by decide) dL_shared_12 ?_
    refine z_iload rfl dL_shared_14 ?_
    refine m_mulN dL_shared_16 ?_
    refine z_bipush (nI 8) (by decide) dL_shared_17 ?_
    refine m_addN dL_shared_19 ?_
    refine z_icmp_ge 155 (by decide) dL_shared_20 (z_br (zcn (n := (8 * bs) + 8) (by omega) (8 * bs + i) (by omega)).2.2 (fun h20t => ?_)) (z_brn (zcn (n := (8 * bs) + 8) (by omega) (8 * bs + i) (by omega)).2.2 (fun h20f => ?_))
    · obtain rfl : i = N := by omega
      refine z_iconst (nI 0) (by decide) dL_shared_155 ?_
      refine z_istore (by decide) rfl dL_shared_156 ?_
      refine z_fgt [.ref (J 0), .ref (J 1), .ref (J 2), .ref (J 3), .ref (J 4), .ref (J 5), .int (nI a), .int (nI b), .int (nI bs), .int (nI k), .int (nI 0), .null, .null] ⟨Or.inl rfl, ⟨Or.inl rfl, ⟨Or.inl rfl, ⟨Or.inl rfl, ⟨Or.inl rfl, ⟨Or.inl rfl, ⟨Or.inl rfl, ⟨Or.inl rfl, ⟨Or.inl rfl, ⟨Or.inl rfl, ⟨Or.inl rfl, ⟨Or.inl rfl, ⟨Or.inl rfl, trivial⟩⟩⟩⟩⟩⟩⟩⟩⟩⟩⟩⟩⟩ ?_
      exact lp_L_sh2 ha hb hN h11 (C := sC ν a b (8 * bs) i) ho _ 0 k rfl (by omega) hk
    · refine z_iload rfl dL_shared_23 ?_
      refine z_bipush (nI 10) (by decide) dL_shared_25 ?_
      refine z_icmp_ge 155 (by decide) dL_shared_27 (z_br (zcn (n := 10) (by omega) (8 * bs + i) (by omega)).2.2 (fun h27t => ?_)) (z_brn (zcn (n := 10) (by omega) (8 * bs + i) (by omega)).2.2 (fun h27f => ?_))
      · obtain rfl : i = N := by omega
        refine z_iconst (nI 0) (by decide) dL_shared_155 ?_
        refine z_istore (by decide) rfl dL_shared_156 ?_
        refine z_fgt [.ref (J 0), .ref (J 1), .ref (J 2), .ref (J 3), .ref (J 4), .ref (J 5), .int (nI a), .int (nI b), .int (nI bs), .int (nI k), .int (nI 0), .null, .null] ⟨Or.inl rfl, ⟨Or.inl rfl, ⟨Or.inl rfl, ⟨Or.inl rfl, ⟨Or.inl rfl, ⟨Or.inl rfl, ⟨Or.inl rfl, ⟨Or.inl rfl, ⟨Or.inl rfl, ⟨Or.inl rfl, ⟨Or.inl rfl, ⟨Or.inl rfl, ⟨Or.inl rfl, trivial⟩⟩⟩⟩⟩⟩⟩⟩⟩⟩⟩⟩⟩ ?_
        exact lp_L_sh2 ha hb hN h11 (C := sC ν a b (8 * bs) i) ho _ 0 k rfl (by omega) hk
      · refine z_bipush (nI 10) (by decide) dL_shared_30 ?_
        refine z_iload rfl dL_shared_32 ?_
        refine m_mulN dL_shared_34 ?_
        refine z_iload rfl dL_shared_35 ?_
        refine m_addN dL_shared_37 ?_
        refine z_istore (by decide) rfl dL_shared_38 ?_
        refine z_bipush (nI 10) (by decide) dL_shared_40 ?_
        refine z_iload rfl dL_shared_42 ?_
        refine m_mulN dL_shared_44 ?_
        refine z_iload rfl dL_shared_45 ?_
        refine m_addN dL_shared_47 ?_
        refine z_istore (by decide) rfl dL_shared_48 ?_
        have sec : ∀ k2, k2 = k + wN (sP ν a b (8 * bs + i)) → zV false E kL_shared 116 o 120 [.ref (J 0), .ref (J 1), .ref (J 2), .ref (J 3), .ref (J 4), .ref (J 5), .int (nI a), .int (nI b), .int (nI bs), .int (nI k2), .int (nI (8 * bs + i)), .int (nI ((10 * a) + (8 * bs + i))), .int (nI ((10 * b) + (8 * bs + i)))] [] (zm μ (J, m, ν)) 0 0 := by
          intro k2 hk2
          refine z_aload_n rfl rfl dL_shared_120 ?_
          refine z_iload rfl dL_shared_121 ?_
          refine m_xald 2 ((10 * a) + (8 * bs + i)) 64 rfl (by omega) rfl (by omega) (by decide) dL_shared_123 ?_
          refine z_aload_n rfl rfl dL_shared_124 ?_
          refine z_iload rfl dL_shared_125 ?_
          refine m_xald 2 ((10 * b) + (8 * bs + i)) 64 rfl (by omega) rfl (by omega) (by decide) dL_shared_127 ?_
          refine z_icmp_ne 149 (by decide) dL_shared_128 (fun h128t => ?_) (fun h128f => ?_)
          · refine z_iinc (nI (8 * bs + i + 1)) rfl (zincN _ 1) (by decide) rfl dL_shared_149 ?_
            refine z_goto 10 (by decide) dL_shared_152 ?_
            refine z_fgt [.ref (J 0), .ref (J 1), .ref (J 2), .ref (J 3), .ref (J 4), .ref (J 5), .int (nI a), .int (nI b), .int (nI bs), .int (nI k2), .int (nI (8 * bs + i + 1)), .null, .null] ⟨Or.inl rfl, ⟨Or.inl rfl, ⟨Or.inl rfl, ⟨Or.inl rfl, ⟨Or.inl rfl, ⟨Or.inl rfl, ⟨Or.inl rfl, ⟨Or.inl rfl, ⟨Or.inl rfl, ⟨Or.inl rfl, ⟨Or.inl rfl, ⟨Or.inr rfl, ⟨Or.inr rfl, trivial⟩⟩⟩⟩⟩⟩⟩⟩⟩⟩⟩⟩⟩ ?_
            exact ih (N - (i + 1)) (by omega) (i + 1) (k2) rfl (by omega) (by have q := wN_f (P := sQ ν a b (8 * bs + i)) (fun q => h128t q.1); show _ = sC ν a b (8 * bs) i + wN (sP ν a b (8 * bs + i)) + wN (sQ ν a b (8 * bs + i)); omega)
          · refine z_aload_n rfl rfl dL_shared_131 ?_
            refine z_iload rfl dL_shared_132 ?_
            refine m_xald 2 ((10 * a) + (8 * bs + i)) 64 rfl (by omega) rfl (by omega) (by decide) dL_shared_134 ?_
            refine z_aload rfl dL_shared_135 ?_
            refine z_bipush (nI 20) (by decide) dL_shared_137 ?_
            refine z_iload rfl dL_shared_139 ?_
            refine m_addN dL_shared_141 ?_
            refine m_xald 4 (20 + (8 * bs + i)) 64 rfl (by omega) rfl (by omega) (by decide) dL_shared_142 ?_
            refine z_icmp_eq 149 (by decide) dL_shared_143 (fun h143t => ?_) (fun h143f => ?_)
            · refine z_iinc (nI (8 * bs + i + 1)) rfl (zincN _ 1) (by decide) rfl dL_shared_149 ?_
              refine z_goto 10 (by decide) dL_shared_152 ?_
              refine z_fgt [.ref (J 0), .ref (J 1), .ref (J 2), .ref (J 3), .ref (J 4), .ref (J 5), .int (nI a), .int (nI b), .int (nI bs), .int (nI k2), .int (nI (8 * bs + i + 1)), .null, .null] ⟨Or.inl rfl, ⟨Or.inl rfl, ⟨Or.inl rfl, ⟨Or.inl rfl, ⟨Or.inl rfl, ⟨Or.inl rfl, ⟨Or.inl rfl, ⟨Or.inl rfl, ⟨Or.inl rfl, ⟨Or.inl rfl, ⟨Or.inl rfl, ⟨Or.inr rfl, ⟨Or.inr rfl, trivial⟩⟩⟩⟩⟩⟩⟩⟩⟩⟩⟩⟩⟩ ?_
              exact ih (N - (i + 1)) (by omega) (i + 1) (k2) rfl (by omega) (by have q := wN_f (P := sQ ν a b (8 * bs + i)) (fun q => q.2 h143t); show _ = sC ν a b (8 * bs) i + wN (sP ν a b (8 * bs + i)) + wN (sQ ν a b (8 * bs + i)); omega)
            · refine z_iinc (nI (k2 + 1)) rfl (zincN _ 1) (by decide) rfl dL_shared_146 ?_
              refine z_iinc (nI (8 * bs + i + 1)) rfl (zincN _ 1) (by decide) rfl dL_shared_149 ?_
              refine z_goto 10 (by decide) dL_shared_152 ?_
              refine z_fgt [.ref (J 0), .ref (J 1), .ref (J 2), .ref (J 3), .ref (J 4), .ref (J 5), .int (nI a), .int (nI b), .int (nI bs), .int (nI (k2 + 1)), .int (nI (8 * bs + i + 1)), .null, .null] ⟨Or.inl rfl, ⟨Or.inl rfl, ⟨Or.inl rfl, ⟨Or.inl rfl, ⟨Or.inl rfl, ⟨Or.inl rfl, ⟨Or.inl rfl, ⟨Or.inl rfl, ⟨Or.inl rfl, ⟨Or.inl rfl, ⟨Or.inl rfl, ⟨Or.inr rfl, ⟨Or.inr rfl, trivial⟩⟩⟩⟩⟩⟩⟩⟩⟩⟩⟩⟩⟩ ?_
              exact ih (N - (i + 1)) (by omega) (i + 1) (k2 + 1) rfl (by omega) (by have q := wN_t (P := sQ ν a b (8 * bs + i)) ⟨h128f, h143f⟩; show _ = sC ν a b (8 * bs) i + wN (sP ν a b (8 * bs + i)) + wN (sQ ν a b (8 * bs + i)); omega)
        refine z_aload_n rfl rfl dL_shared_50 ?_
        refine z_iload rfl dL_shared_51 ?_
        refine m_xald 3 ((10 * a) + (8 * bs + i)) 64 rfl (by omega) rfl (by omega) (by decide) dL_shared_53 ?_
        refine z_bipush (-2) (by decide) dL_shared_54 ?_
        refine z_icmp_le 120 (by decide) dL_shared_56 (fun h56t => ?_) (fun h56f => ?_)
        · exact sec k (by rw [wN_f (fun q => q.1 h56t)]; rfl)
        · refine z_aload_n rfl rfl dL_shared_59 ?_
          refine z_iload rfl dL_shared_60 ?_
          refine m_xald 3 ((10 * b) + (8 * bs + i)) 64 rfl (by omega) rfl (by omega) (by decide) dL_shared_62 ?_
          refine z_bipush (-2) (by decide) dL_shared_63 ?_
          refine z_icmp_le 120 (by decide) dL_shared_65 (fun h65t => ?_) (fun h65f => ?_)
          · exact sec k (by rw [wN_f (fun q => q.2.1 h65t)]; rfl)
          · refine z_aload_n rfl rfl dL_shared_68 ?_
            refine z_iload rfl dL_shared_69 ?_
            refine m_xald 0 ((10 * a) + (8 * bs + i)) 64 rfl (by omega) rfl (by omega) (by decide) dL_shared_71 ?_
            refine z_aload_n rfl rfl dL_shared_72 ?_
            refine z_iload rfl dL_shared_73 ?_
            refine m_xald 0 ((10 * b) + (8 * bs + i)) 64 rfl (by omega) rfl (by omega) (by decide) dL_shared_75 ?_
            refine z_icmp_ne 120 (by decide) dL_shared_76 (fun h76t => ?_) (fun h76f => ?_)
            · exact sec k (by rw [wN_f (fun q => h76t q.2.2.1)]; rfl)
            · refine z_aload_n rfl rfl dL_shared_79 ?_
              refine z_iload rfl dL_shared_80 ?_
              refine m_xald 1 ((10 * a) + (8 * bs + i)) 64 rfl (by omega) rfl (by omega) (by decide) dL_shared_82 ?_
              refine z_aload_n rfl rfl dL_shared_83 ?_
              refine z_iload rfl dL_shared_84 ?_
              refine m_xald 1 ((10 * b) + (8 * bs + i)) 64 rfl (by omega) rfl (by omega) (by decide) dL_shared_86 ?_
              refine z_icmp_ne 120 (by decide) dL_shared_87 (fun h87t => ?_) (fun h87f => ?_)
              · exact sec k (by rw [wN_f (fun q => h87t q.2.2.2.1)]; rfl)
              · refine z_aload_n rfl rfl dL_shared_90 ?_
                refine z_iload rfl dL_shared_91 ?_
                refine m_xald 0 ((10 * a) + (8 * bs + i)) 64 rfl (by omega) rfl (by omega) (by decide) dL_shared_93 ?_
                refine z_aload rfl dL_shared_94 ?_
                refine z_iload rfl dL_shared_96 ?_
                refine m_xald 4 (8 * bs + i) 64 rfl (by omega) rfl (by omega) (by decide) dL_shared_98 ?_
                refine z_icmp_ne 117 (by decide) dL_shared_99 (fun h99t => ?_) (fun h99f => ?_)
                · refine z_iinc (nI (k + 1)) rfl (zincN _ 1) (by decide) rfl dL_shared_117 ?_
                  exact sec (k + 1) (by rw [wN_t ⟨h56f, h65f, h76f, h87f, Or.inl h99t⟩])
                · refine z_aload_n rfl rfl dL_shared_102 ?_
                  refine z_iload rfl dL_shared_103 ?_
                  refine m_xald 1 ((10 * a) + (8 * bs + i)) 64 rfl (by omega) rfl (by omega) (by decide) dL_shared_105 ?_
                  refine z_aload rfl dL_shared_106 ?_
                  refine z_bipush (nI 10) (by decide) dL_shared_108 ?_
                  refine z_iload rfl dL_shared_110 ?_
                  refine m_addN dL_shared_112 ?_
                  refine m_xald 4 (10 + (8 * bs + i)) 64 rfl (by omega) rfl (by omega) (by decide) dL_shared_113 ?_
                  refine z_icmp_eq 120 (by decide) dL_shared_114 (fun h114t => ?_) (fun h114f => ?_)
                  · exact sec k (by rw [wN_f (fun q => q.2.2.2.2.elim (fun z => z h99f) (fun z => z h114t))]; rfl)
                  · refine z_iinc (nI (k + 1)) rfl (zincN _ 1) (by decide) rfl dL_shared_117 ?_
                    exact sec (k + 1) (by rw [wN_t ⟨h56f, h65f, h76f, h87f, Or.inr h114f⟩])
set_option maxRecDepth 100000 in
set_option maxHeartbeats 4000000 in
theorem ct_L_shared {E : Nat × (Nat → Int32)} {μ : zMu} {J : Nat → Nat} {m : Nat} {ν : zMu} {a b bs N : Nat} (ha : a < 5) (hb : b < 5) (hN : bs = 0 ∧ N = 8 ∨ bs = 1 ∧ N = 2) (h11 : 5 < m) : zCt E kL_shared [.ref (J 0), .ref (J 1), .ref (J 2), .ref (J 3), .ref (J 4), .ref (J 5), .int (nI a), .int (nI b), .int (nI bs)] (zm μ (J, m, ν)) (.inl (some (.int (nI (sC ν a b (8 * bs) N + sI ν a b 4)))), zm μ (J, m, ν)) := by
  refine zCt_of ko_L_shared (Nat.le_of_ble_eq_true rfl) (zas_r (zas_r (zas_r (zas_r (zas_r (zas_r (zas_i (zas_i (zas_i zas_0))))))))) ⟨Nat.le_refl _, fun h => absurd h (Nat.lt_irrefl _)⟩ (Nat.le_of_ble_eq_true rfl) ?_
  show zV false E kL_shared 116 _ 0 [.ref (J 0), .ref (J 1), .ref (J 2), .ref (J 3), .ref (J 4), .ref (J 5), .int (nI a), .int (nI b), .int (nI bs), .null, .null, .null, .null] [] (zm μ (J, m, ν)) 0 0
  refine z_iconst (nI 0) (by decide) dL_shared_0 ?_
  refine z_istore (by decide) rfl dL_shared_1 ?_
  refine z_bipush (nI 8) (by decide) dL_shared_3 ?_
  refine z_iload rfl dL_shared_5 ?_
  refine m_mulN dL_shared_7 ?_
  refine z_istore (by decide) rfl dL_shared_8 ?_
  exact lp_L_sh1 ha hb hN h11 rfl _ 0 0 rfl (Nat.zero_le _) rfl
theorem zX_catchN {F : Bool} {E : Nat × (Nat → Int32)} {K : zK} {n0 : Nat} {o : zO} {pc : Nat} {ls : List Value} {M : zM} {u us : Nat} {Ex : String} {k4 : Fin 4} {i hp : Nat} {ls1 : List Value} (x : Nat × Nat × Nat × Nat) (hs : zKh K = [x]) (hx : x.1 ≤ pc ∧ pc < x.2.1) (hh : x.2.2.1 = hp) (h0 : x.2.2.2 ≠ 0) (hl : Cond.classLink (zKy K).cls x.2.2.2 Ex ∈ zG) (hX : Ex ∈ zXs) (hi : (k4 : Nat) = i) (hn : i < zKl K) (hl1 : ls.set i .null = ls1)
    (d : decode (zKc K) hp = .ok (.astore_n k4, 1)) (kk : zV F E K n0 o (hp + 1) ls1 [] M u us) : zX F E K n0 o pc ls M u us Ex := by
  intro p l e R s m args below meth c D ca bs b H locs lr rest q ce hC hR hS hA hn0 hL h1 h2 h3
  have hts := hC.2.2.2.2.1
  have hEv := hC.2.2.2.2.2.2.2.2.2.2.1
  refine vx_catch (own := (zKy K).cls) (name := Ex) (E := Ex) (ce := ce) hC.2.2.2.1 (tableOf []) ⟨x.1, x.2.1, x.2.2.1, x.2.2.2⟩ (tableOf []) ?_ ?_ ?_ h0 (hts _ hl) (va_Nw.use rfl (hEv.2.2.2.2.2.2.2.2.1 _ hX)) h1 h2 h3 ?_
  · rw [hC.2.2.2.2.2.2.2.2.1, hs]
    simp [tableOf]
  · intro z hz
    simp [tableOf] at hz
  · simp [covers, hx.1, hx.2]
  · rw [hh]
    subst hl1
    exact lv_astore_n (nL := zKl K) hC.1 hC.2.1 d hi (zL_has hL) hn rfl (fun lr1 h9 => kk p l e R s m args below meth c D ca bs b H locs lr1 hC hR hS hA hn0 (zL_setN hL h9))
theorem kx_16 : Cond.classLink RL 16 xS ∈ zG := zG_in 471 (by decide +kernel) rfl
set_option maxRecDepth 100000 in
set_option maxHeartbeats 4000000 in
theorem ct_L_pasted {E : Nat × (Nat → Int32)} {g : zLw} {μ μ2 : zMu} {a b f t v : Int32} (h : zCt E kX7_paste [.ref (1), .int (a), .int (b), .int (f), .int (t)] (zm μ g) (.inl (some (.int v)), zm μ2 g)) : zCt E kL_pasted [.ref (1), .int (a), .int (b), .int (f), .int (t)] (zm μ g) (.inl (some (.int v)), zm μ2 g) := by
  refine zCt_of ko_L_pasted (Nat.le_of_ble_eq_true rfl) (zas_r (zas_i (zas_i (zas_i (zas_i zas_0))))) ⟨Nat.le_refl _, fun h => absurd h (Nat.lt_irrefl _)⟩ (Nat.le_of_ble_eq_true rfl) ?_
  show zV false E kL_pasted 116 _ 0 [.ref (1), .int (a), .int (b), .int (f), .int (t), .null] [] (zm μ g) 0 0
  refine z_aload_n rfl rfl dL_pasted_0 ?_
  refine z_iload_n rfl rfl dL_pasted_1 ?_
  refine z_iload_n rfl rfl dL_pasted_2 ?_
  refine z_iload_n rfl rfl dL_pasted_3 ?_
  refine z_iload rfl dL_pasted_4 ?_
  refine z_callV (as := [.int (a), .int (b), .int (f), .int (t)]) h ko_X7_paste kl_L_10 rfl (zl_a rfl rfl) rfl rfl ⟨by decide, by decide, by decide, by decide⟩ (Nat.le_of_ble_eq_true rfl) rfl dL_pasted_6 ?_
  exact z_iret rfl rfl (znarI _) (by decide) (by decide) dL_pasted_9
set_option maxRecDepth 100000 in
set_option maxHeartbeats 4000000 in
theorem ctx_L_pasted {E : Nat × (Nat → Int32)} {g : zLw} {μ μ2 : zMu} {a b f t : Int32} (h : zCt E kX7_paste [.ref (1), .int (a), .int (b), .int (f), .int (t)] (zm μ g) (.inr xS, zm μ2 g)) : zCt E kL_pasted [.ref (1), .int (a), .int (b), .int (f), .int (t)] (zm μ g) (.inl (some (.int (-1))), zm μ2 g) := by
  refine zCt_of ko_L_pasted (Nat.le_of_ble_eq_true rfl) (zas_r (zas_i (zas_i (zas_i (zas_i zas_0))))) ⟨Nat.le_refl _, fun h => absurd h (Nat.lt_irrefl _)⟩ (Nat.le_of_ble_eq_true rfl) ?_
  show zV false E kL_pasted 116 _ 0 [.ref (1), .int (a), .int (b), .int (f), .int (t), .null] [] (zm μ g) 0 0
  refine z_aload_n rfl rfl dL_pasted_0 ?_
  refine z_iload_n rfl rfl dL_pasted_1 ?_
  refine z_iload_n rfl rfl dL_pasted_2 ?_
  refine z_iload_n rfl rfl dL_pasted_3 ?_
  refine z_iload rfl dL_pasted_4 ?_
  refine z_callVx (as := [.int (a), .int (b), .int (f), .int (t)]) h ko_X7_paste kl_L_10 rfl (zl_a rfl rfl) rfl rfl ⟨by decide, by decide, by decide, by decide⟩ (Nat.le_of_ble_eq_true rfl) rfl dL_pasted_6 ?_
  refine zX_catch [] (0, 9, 10, 16) [] rfl (fun z h => by cases h) ⟨by decide, by decide⟩ rfl (by decide) kx_16 (by decide) (by decide) rfl dL_pasted_10 ?_
  refine z_iconst (-1) (by decide) dL_pasted_12 ?_
  exact z_iret rfl rfl (znarI _) (by decide) (by decide) dL_pasted_13
set_option maxRecDepth 100000 in
set_option maxHeartbeats 4000000 in
theorem ct_L_shrunk {E : Nat × (Nat → Int32)} {g : zLw} {μ μ2 : zMu} {a q v : Int32} (h : zCt E kX7_shrink [.ref (1), .int (a), .int (nI 0), .int (q), .int (nI 0)] (zm μ g) (.inl (some (.int v)), zm μ2 g)) : zCt E kL_shrunk [.ref (1), .int (a), .int (q)] (zm μ g) (.inl (some (.int v)), zm μ2 g) := by
  refine zCt_of ko_L_shrunk (Nat.le_of_ble_eq_true rfl) (zas_r (zas_i (zas_i zas_0))) ⟨Nat.le_refl _, fun h => absurd h (Nat.lt_irrefl _)⟩ (Nat.le_of_ble_eq_true rfl) ?_
  show zV false E kL_shrunk 116 _ 0 [.ref (1), .int (a), .int (q), .null] [] (zm μ g) 0 0
  refine z_aload_n rfl rfl dL_shrunk_0 ?_
  refine z_iload_n rfl rfl dL_shrunk_1 ?_
  refine z_iconst (nI 0) (by decide) dL_shrunk_2 ?_
  refine z_iload_n rfl rfl dL_shrunk_3 ?_
  refine z_iconst (nI 0) (by decide) dL_shrunk_4 ?_
  refine z_callV (as := [.int (a), .int (nI 0), .int (q), .int (nI 0)]) h ko_X7_shrink kl_L_18 rfl (zl_a rfl rfl) rfl rfl ⟨by decide, by decide, by decide, by decide⟩ (Nat.le_of_ble_eq_true rfl) rfl dL_shrunk_5 ?_
  exact z_iret rfl rfl (znarI _) (by decide) (by decide) dL_shrunk_8
set_option maxRecDepth 100000 in
set_option maxHeartbeats 4000000 in
theorem ctx_L_shrunk {E : Nat × (Nat → Int32)} {g : zLw} {μ μ2 : zMu} {a q : Int32} (h : zCt E kX7_shrink [.ref (1), .int (a), .int (nI 0), .int (q), .int (nI 0)] (zm μ g) (.inr xS, zm μ2 g)) : zCt E kL_shrunk [.ref (1), .int (a), .int (q)] (zm μ g) (.inl (some (.int (-1))), zm μ2 g) := by
  refine zCt_of ko_L_shrunk (Nat.le_of_ble_eq_true rfl) (zas_r (zas_i (zas_i zas_0))) ⟨Nat.le_refl _, fun h => absurd h (Nat.lt_irrefl _)⟩ (Nat.le_of_ble_eq_true rfl) ?_
  show zV false E kL_shrunk 116 _ 0 [.ref (1), .int (a), .int (q), .null] [] (zm μ g) 0 0
  refine z_aload_n rfl rfl dL_shrunk_0 ?_
  refine z_iload_n rfl rfl dL_shrunk_1 ?_
  refine z_iconst (nI 0) (by decide) dL_shrunk_2 ?_
  refine z_iload_n rfl rfl dL_shrunk_3 ?_
  refine z_iconst (nI 0) (by decide) dL_shrunk_4 ?_
  refine z_callVx (as := [.int (a), .int (nI 0), .int (q), .int (nI 0)]) h ko_X7_shrink kl_L_18 rfl (zl_a rfl rfl) rfl rfl ⟨by decide, by decide, by decide, by decide⟩ (Nat.le_of_ble_eq_true rfl) rfl dL_shrunk_5 ?_
  refine zX_catchN (0, 8, 9, 16) rfl ⟨by decide, by decide⟩ rfl (by decide) kx_16 (by decide) rfl (by decide) rfl dL_shrunk_9 ?_
  refine z_iconst (-1) (by decide) dL_shrunk_10 ?_
  exact z_iret rfl rfl (znarI _) (by decide) (by decide) dL_shrunk_11
