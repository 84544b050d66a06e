/-! loops as folds -/
def zit {α : Type} (f : Nat → α → α) (a : Nat) : Nat → α → α
  | 0, s => s
  | n + 1, s => f (a + n) (zit f a n s)
theorem zit_s {α : Type} (f : Nat → α → α) (a n : Nat) (s : α) : zit f a (n + 1) s = f (a + n) (zit f a n s) := rfl
abbrev zMu : Type := Nat → Nat → Int32
/-- what a body does on one road -/
theorem zst {α : Type} {f : Nat → α → α} {a m : Nat} {s s0 s' : α} (hs : s = zit f a m s0) (h : s' = f (a + m) s) : s' = zit f a (m + 1) s0 := by rw [zit_s, ← hs]; exact h
/-- a source, followed from an int -/
def zsrc (μ : zMu) (nc p : Nat) (l : Int32) : Int32 := if ¬ l < 0 ∧ l < nI nc then μ (37 + 7 * l.toNatClampNeg) p else -1
theorem zsrc_n {μ : zMu} {nc p j : Nat} (h : j < nc) (hn : nc ≤ 12) : zsrc μ nc p (nI j) = μ (37 + 7 * j) p := by
  rw [zsrc, if_pos ⟨nI_pos (by omega), nI_lt h (by omega)⟩, nI_clamp (by omega)]
theorem zsrc_m {μ : zMu} {nc p : Nat} : zsrc μ nc p (-1) = -1 := by
  rw [zsrc, if_neg (fun h => h.1 (by decide))]
/-- a place drawn by a copyist -/
def zdraw (x way h : Int32) : Int32 := if way = 1 then x / nI 5 * nI 5 else if way = 2 then x + h else x
abbrev zgive (μ : zMu) (p : Nat) (x y : Int32) : zMu := zu (zu (zu μ 16 p (μ 16 p + x)) 17 p (μ 17 p + y)) 18 p (μ 18 p + nI 1)
abbrev zerr (μ : zMu) (c p : Nat) (inX : Prop) [Decidable inX] : Int32 := if inX then μ (34 + 7 * c) p - μ 3 p else μ (35 + 7 * c) p - μ 4 p
abbrev ztn (μ : zMu) (c p : Nat) : Prop := μ (36 + 7 * c) p = μ 5 p
abbrev zshe (μ : zMu) (c d p : Nat) : Prop := zkn μ c p ∧ zkn μ d p ∧ μ (34 + 7 * c) p = μ (34 + 7 * d) p ∧ μ (35 + 7 * c) p = μ (35 + 7 * d) p ∧ (¬ μ (34 + 7 * c) p - μ 3 p = 0 ∨ ¬ μ (35 + 7 * c) p - μ 4 p = 0)
theorem znab {x y z : Int32} (h : ¬ x = y) : ¬ (x = y ∧ z = z) := fun q => h q.1
theorem zu_o {μ : zMu} {k j a b : Nat} {x : Int32} (h : a ≠ k) : zu μ k j x a b = μ a b := by simp [zu, h]
theorem zu_o2 {μ : zMu} {k j a b : Nat} {x : Int32} (h : b ≠ j) : zu μ k j x a b = μ a b := by simp [zu, h]
theorem zu_s {μ : zMu} {k j : Nat} {x : Int32} : zu μ k j x k j = x := by simp [zu]
