/-! words for what the methods answer -/
theorem zas_0 : ∀ v ∈ ([] : List Value), v.category = 1 ∧ v ≠ .null := fun v h => by cases h
theorem zas_i {x : Int32} {as : List Value} (h : ∀ v ∈ as, v.category = 1 ∧ v ≠ .null) : ∀ v ∈ Value.int x :: as, v.category = 1 ∧ v ≠ .null := fun v hv => (List.mem_cons.mp hv).elim (fun e => by subst e; exact ⟨rfl, fun q => by cases q⟩) (h v)
theorem zas_r {x : Nat} {as : List Value} (h : ∀ v ∈ as, v.category = 1 ∧ v ≠ .null) : ∀ v ∈ Value.ref x :: as, v.category = 1 ∧ v ≠ .null := fun v hv => (List.mem_cons.mp hv).elim (fun e => by subst e; exact ⟨rfl, fun q => by cases q⟩) (h v)
def xI : String := "java/lang/IndexOutOfBoundsException"
def xA : String := "java/lang/IllegalArgumentException"
def xS : String := "java/lang/IllegalStateException"
theorem zleafT {p : Prop} [Decidable p] {M : zM} (h : p) : ((.inl (some (.int (zb p))), M) : zO) = (.inl (some (.int (nI 1))), M) := by rw [zb_t h]; rfl
theorem zleafF {p : Prop} [Decidable p] {M : zM} (h : ¬ p) : ((.inl (some (.int (zb p))), M) : zO) = (.inl (some (.int (nI 0))), M) := by rw [zb_f h]; rfl
theorem z0e {n : Nat} (h : n < 2147483648) : nI n = 0 ↔ n = 0 := by rw [← nI_0]; exact nI_eq h (by decide)
theorem z0p {n : Nat} (h : n < 2147483648) : 0 < nI n ↔ 0 < n := by rw [← nI_0]; exact nI_ltI (by decide) h
theorem z0l {n : Nat} (h : n < 2147483648) : nI n ≤ 0 ↔ n = 0 := by rw [← nI_0]; exact (nI_leI h (by decide)).trans (by omega)
/-- an index in range -/
abbrev zrg (n : Nat) (p : Int32) : Prop := ¬ p < 0 ∧ p < nI n
theorem zrg_nI {n j : Nat} (h : j < n) (hn : n < 2147483648) : zrg n (nI j) := ⟨nI_pos (by omega), nI_lt h hn⟩
theorem zrg_of {n : Nat} {p : Int32} (h : zrg n p) (hn : n < 2147483648) : ∃ j, j < n ∧ p = nI j := by
  obtain ⟨j, hj, rfl⟩ := nI_of h.1
  exact ⟨j, (nI_ltI hj hn).mp h.2, rfl⟩
theorem zrg_cases (n : Nat) (hn : n < 2147483648) (p : Int32) : ¬ zrg n p ∨ ∃ j, j < n ∧ p = nI j := by
  by_cases h : zrg n p
  · exact Or.inr (zrg_of h hn)
  · exact Or.inl h
abbrev zin (v e : Int32) : Prop := ¬ v < -e ∧ ¬ e < v
abbrev znm (v : Int32) : Prop := ¬ v < nI 1 ∧ ¬ nI 99 < v
abbrev zyr (v : Int32) : Prop := ¬ v < 0 ∧ ¬ nI 2000 < v
/-- the class's point of a chart is known -/
abbrev zkn (μ : Nat → Nat → Int32) (c p : Nat) : Prop := ¬ μ (34 + 7 * c) p = 100000
abbrev zput (μ : Nat → Nat → Int32) (c p : Nat) (x y s : Int32) : Nat → Nat → Int32 := zu (zu (zu μ (34 + 7 * c) p x) (35 + 7 * c) p y) (37 + 7 * c) p s
