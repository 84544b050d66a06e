/-! memory while all is made: the kinds are known ahead; what isn't made yet is zero -/
abbrev zRh : Type := Nat → Nat → Nat
abbrev zx00 : zLw := (fun _ => 0, 0, fun _ _ => 0)
abbrev zc (μ : zMu) (ρ : zRh) (n : Nat) : zM := (μ, ρ, zκ, n, true, zx00)
abbrev zfr (μ : zMu) (ρ : zRh) (n : Nat) : Prop := ∀ k, n < k → μ k = (fun _ => 0) ∧ ρ k = (fun _ => 0)
theorem zc_at {μ : zMu} {ρ : zRh} {n k : Nat} {x : Nat × Nat} (h : zκ k = x) (h1 : 0 < k) (h2 : k ≤ n) : zAt (zc μ ρ n) k x := ⟨h, h1, h2⟩
theorem zfr_n {μ : zMu} {ρ : zRh} {n m : Nat} (h : zfr μ ρ n) (hm : m = n + 1) : zfr μ ρ m := fun k hk => h k (by omega)
theorem zfr_i {μ : zMu} {ρ : zRh} {n k j : Nat} {x : Int32} (h : zfr μ ρ n) (hk : k ≤ n) : zfr (zu μ k j x) ρ n := fun q hq => ⟨by rw [zu_r (by omega)]; exact (h q hq).1, (h q hq).2⟩
theorem zfr_r {μ : zMu} {ρ : zRh} {n k j v : Nat} (h : zfr μ ρ n) (hk : k ≤ n) : zfr μ (zur ρ k j v) n := fun q hq => ⟨(h q hq).1, by rw [zur_ne _ _ _ (by omega)]; exact (h q hq).2⟩
theorem zNew_c {μ : zMu} {ρ : zRh} {n m : Nat} {x : Nat × Nat} (hm : m = n + 1) (hk : zκ m = x) (hz : zfr μ ρ n) : zNew (zc μ ρ n) x = zc μ ρ m := by
  subst hm
  obtain ⟨h1, h2⟩ := hz (n + 1) (Nat.lt_succ_self n)
  have e1 : (fun a => if a = n + 1 then (fun _ => (0 : Int32)) else μ a) = μ := by
    funext a
    by_cases ha : a = n + 1
    · subst ha; rw [if_pos rfl, h1]
    · rw [if_neg ha]
  have e2 : (fun a => if a = n + 1 then (fun _ => (0 : Nat)) else ρ a) = ρ := by
    funext a
    by_cases ha : a = n + 1
    · subst ha; rw [if_pos rfl, h2]
    · rw [if_neg ha]
  have e3 : zkp zκ (n + 1) x = zκ := by
    funext a
    unfold zkp
    by_cases ha : a = n + 1
    · subst ha; rw [if_pos rfl, hk]
    · rw [if_neg ha]
  show ((fun a => if a = n + 1 then (fun _ => (0 : Int32)) else μ a), (fun a => if a = n + 1 then (fun _ => (0 : Nat)) else ρ a), zkp zκ (n + 1) x, n + 1, true, zx00) = _
  rw [e1, e2, e3]
section ZF9
variable {F : Bool} {E : Nat × (Nat → Int32)} {K : zK} {n0 : Nat} {o : zO} {pc : Nat} {ls sk : List Value} {μ : zMu} {ρ : zRh} {n u us : Nat}
theorem n_new {idx ci N m : Nat} (hN9 : zN (zKy K).cls idx ci) (hN : (zfl ci).length = N) (hm : m = n + 1) (hk : zκ m = (0, ci)) (hz : zfr μ ρ n) (hc : u + 1 ≤ zKm K) (hs : us + N ≤ zKs K) (d : decode (zKc K) pc = .ok (.new idx, 3))
    (kk : zV F E K n0 o (pc + 3) ls (.ref m :: sk) (zc μ ρ m) (u + 1) (us + N)) : zV F E K n0 o pc ls sk (zc μ ρ n) u us := by
  refine z_new hN9 hN rfl rfl hc hs d ?_
  rw [zNew_c hm hk hz]
  subst hm
  exact kk
theorem n_newarr {atype : ArrayType} {t N m : Nat} {i : Int32} (htt : (t = 1 ∧ atype = .int) ∨ (t = 2 ∧ atype = .boolean) ∨ (t = 3 ∧ False)) (hw : Cond.arrayClass (newarray.typeOf atype) ∈ zG) (hn : ¬ i < 0) (hN : i.toNatClampNeg = N) (hN2 : N ≤ 1000) (hm : m = n + 1) (hk : zκ m = (t, N)) (hz : zfr μ ρ n) (hc : u + 1 ≤ zKm K) (hs : us + N ≤ zKs K) (d : decode (zKc K) pc = .ok (.newarray atype, 2))
    (kk : zV F E K n0 o (pc + 2) ls (.ref m :: sk) (zc μ ρ m) (u + 1) (us + N)) : zV F E K n0 o pc ls (.int i :: sk) (zc μ ρ n) u us := by
  refine z_newarr (t := t) htt hw hn hN hN2 rfl rfl hc hs d ?_
  rw [zNew_c hm hk hz]
  subst hm
  exact kk
theorem n_anewarr {idx t N m : Nat} {C : String} {i : Int32} (htt : (t = 4 ∧ C = RX0) ∨ (t = 5 ∧ C = RX2)) (hw : Cond.classLink (zKy K).cls idx C ∈ zG) (hn : ¬ i < 0) (hN : i.toNatClampNeg = N) (hN2 : N ≤ 1000) (hm : m = n + 1) (hk : zκ m = (t, N)) (hz : zfr μ ρ n) (hc : u + 1 ≤ zKm K) (hs : us + N ≤ zKs K) (d : decode (zKc K) pc = .ok (.anewarray idx, 3))
    (kk : zV F E K n0 o (pc + 3) ls (.ref m :: sk) (zc μ ρ m) (u + 1) (us + N)) : zV F E K n0 o pc ls (.int i :: sk) (zc μ ρ n) u us := by
  refine z_anewarr (t := t) htt hw hn hN hN2 rfl rfl hc hs d ?_
  rw [zNew_c hm hk hz]
  subst hm
  exact kk
theorem n_putI {idx ci j k : Nat} {x : Int32} (hf : zF (zKy K).cls idx ci j) (hk : zAt (zc μ ρ n) k (0, ci)) (hi : (zfl ci).getD j true = true) (d : decode (zKc K) pc = .ok (.putfield idx, 3))
    (kk : zV F E K n0 o (pc + 3) ls sk (zc (zu μ k j x) ρ n) u us) : zV F E K n0 o pc ls (.int x :: .ref k :: sk) (zc μ ρ n) u us := z_putI hf hk hi d kk
theorem n_putR {idx ci j k k1 : Nat} (hf : zF (zKy K).cls idx ci j) (hk : zAt (zc μ ρ n) k (0, ci)) (hi : (zfl ci).getD j true = false) (h1 : 0 < k1) (hin : (zKy K).name = "<init>") (hdecl : ∀ C T N, vwCl[ci]? = some (C, T, N) → C = (zKy K).cls) (d : decode (zKc K) pc = .ok (.putfield idx, 3))
    (kk : zV F E K n0 o (pc + 3) ls sk (zc μ (zur ρ k j k1) n) u us) : zV F E K n0 o pc ls (.ref k1 :: .ref k :: sk) (zc μ ρ n) u us := z_putR hf hk hi h1 hin hdecl d kk
theorem n_getR {idx ci j k : Nat} (k1 : Nat) (hf : zF (zKy K).cls idx ci j) (hk : zAt (zc μ ρ n) k (0, ci)) (hi : (zfl ci).getD j true = false) (hr : ρ k j = k1) (h1 : 0 < k1) (d : decode (zKc K) pc = .ok (.getfield idx, 3))
    (kk : zV F E K n0 o (pc + 3) ls (.ref k1 :: sk) (zc μ ρ n) u us) : zV F E K n0 o pc ls (.ref k :: sk) (zc μ ρ n) u us := z_getR k1 hf hk hi hr h1 d kk
theorem n_iast {N k : Nat} {i x : Int32} (j : Nat) (hk : zAt (zc μ ρ n) k (1, N)) (hi : i = nI j) (hj : j < N) (hn : N ≤ 1000) (d : decode (zKc K) pc = .ok (.iastore, 1))
    (kk : zV F E K n0 o (pc + 1) ls sk (zc (zu μ k j x) ρ n) u us) : zV F E K n0 o pc ls (.int x :: .int i :: .ref k :: sk) (zc μ ρ n) u us := by
  obtain ⟨h1, h2⟩ := m_ix hi hj hn
  exact z_iast hk h1 d (by rw [h2]; exact kk)
theorem n_aast {N k t ci v : Nat} {i : Int32} (j : Nat) (htt : (t = 4 ∧ ci = 0) ∨ (t = 5 ∧ ci = 2)) (hk : zAt (zc μ ρ n) k (t, N)) (hv : zAt (zc μ ρ n) v (0, ci)) (hi : i = nI j) (hj : j < N) (hn : N ≤ 1000) (d : decode (zKc K) pc = .ok (.aastore, 1))
    (kk : zV F E K n0 o (pc + 1) ls sk (zc μ (zur ρ k j v) n) u us) : zV F E K n0 o pc ls (.ref v :: .int i :: .ref k :: sk) (zc μ ρ n) u us := by
  obtain ⟨h1, h2⟩ := m_ix hi hj hn
  exact z_aast htt hk hv h1 d (by rw [h2]; exact kk)
end ZF9
