/-! words for the reference's methods -/
theorem zg_Z {v : Int32} {m : Nat} (hm : m < 2147483647) : zb (¬ v < nI 0 ∧ ¬ nI m < v) = zb (zrg (m + 1) v) := by
  refine zb_cong ?_
  constructor
  · rintro ⟨h1, h2⟩
    obtain ⟨j, hj, rfl⟩ := nI_of (by rw [← nI_0]; exact h1)
    have h3 : ¬ m < j := fun q => h2 ((nI_ltI (by omega) hj).mpr q)
    exact zrg_nI (by omega) (by omega)
  · intro h
    obtain ⟨j, hj, rfl⟩ := zrg_of h (by omega)
    exact ⟨by rw [nI_0]; exact nI_pos (by omega), fun q => absurd ((nI_ltI (by omega) (by omega)).mp q) (by omega)⟩
theorem zg_R {v : Int32} {n : Nat} (hn : n < 2147483647) : zb (¬ v < nI 0 ∧ ¬ nI n - nI 1 < v) = zb (zrg n v) := by
  cases n with
  | zero =>
    refine zb_cong ⟨?_, fun h => absurd h.2 h.1⟩
    rintro ⟨h1, h2⟩
    refine absurd (Int32.lt_iff_toInt_lt.mpr ?_) h2
    have h3 := Int32.le_iff_toInt_le.mp (Int32.not_lt.mp h1)
    have e1 : (nI 0 - nI 1).toInt = -1 := by decide
    have e2 : (nI 0).toInt = 0 := by decide
    omega
  | succ m =>
    rw [pk_sub (by omega), Nat.add_sub_cancel]
    exact zg_Z (by omega)
theorem zg_S {v l h : Int32} (hl : l = -h) : zb (¬ v < l ∧ ¬ h < v) = zb (zin v h) := by subst hl; rfl
theorem zg_N {l j h : Nat} (h1 : l ≤ j) (h2 : j ≤ h) (h3 : h < 2147483648) : zb (¬ nI j < nI l ∧ ¬ nI h < nI j) = nI 1 :=
  zb_t ⟨fun q => absurd ((nI_ltI (by omega) (by omega)).mp q) (by omega), fun q => absurd ((nI_ltI (by omega) (by omega)).mp q) (by omega)⟩
theorem zg_0 {v : Int32} {m : Nat} : zb (¬ v < nI 0 ∧ ¬ nI m < v) = zb (¬ v < 0 ∧ ¬ nI m < v) := by rw [nI_0]
def zsz (x : Int32) : Int32 := if x < 0 then -x else x
def zmade (x way h : Int32) : Int32 := if way = nI 1 then x / nI 5 * nI 5 else if way = nI 2 then x + h else x
/-- the reference's next link -/
def znx (μ : zMu) (c p : Nat) : Int32 := if μ 130 (24 * c + p) = 0 then -1 else μ 134 (24 * c + p)
abbrev znr (μ : zMu) (i : Nat) (x y : Int32) : Prop := μ 130 i = 0 ∨ (zin (μ 131 i + x) (nI 9999) ∧ zin (μ 132 i + y) (nI 9999))
