/-! one memory for another that is equal in what counts -/
theorem arrV_congr {c : ClassId} {N : Nat} {f g : Nat → Value} (h : ∀ j, j < N → f j = g j) : arrV c N f = arrV c N g := by
  unfold arrV
  congr 1
  congr 1
  funext j
  exact h j.val j.isLt
def zbd (x : Nat × Nat) : Nat := match x.1 with
  | 0 => (zfl x.2).length
  | 1 => 0
  | 2 => 0
  | 3 => 0
  | _ => x.2
theorem zfs_swap {bs : Nat} {m : Nat → Int32} {r r' : Nat → Nat} {fl : List Bool} (h : ∀ j, j < fl.length → r j = r' j) : zfs bs m r fl = zfs bs m r' fl := by
  unfold zfs
  apply List.map_congr_left
  intro j hj
  unfold zfv
  rw [h j (List.mem_range.mp hj)]
theorem zE_swap {D : va_G} {ca : Nat → ClassId} {bs n k q : Nat} {μ : zMu} {ρ ρ' : Nat → Nat → Nat} {κ : Nat → Nat × Nat} {t t' : Bool} {g : zLw} {H : Heap} (h : ∀ j, j < zbd (κ k) → ρ k j = ρ' k j)
    (hv : va_at D vwCl (q, zE ca bs (μ, ρ, κ, n, t, g) k) H) : va_at D vwCl (q, zE ca bs (μ, ρ', κ, n, t', g) k) H := by
  rcases hx : κ k with ⟨a, N⟩
  rw [hx] at h
  match a, hx, h with
  | 0, hx, h =>
    rw [zE_obj (M := (μ, ρ, κ, n, t, g)) hx] at hv
    rw [zE_obj (M := (μ, ρ', κ, n, t', g)) hx]
    have e : zfs bs (μ k) (ρ k) (zfl N) = zfs bs (μ k) (ρ' k) (zfl N) := zfs_swap h
    show va_at D vwCl (q, .inr (N, zfs bs (μ k) (ρ' k) (zfl N))) H
    rw [← e]
    exact hv
  | 1, hx, h =>
    rw [zE_int (M := (μ, ρ, κ, n, t, g)) hx] at hv
    rw [zE_int (M := (μ, ρ', κ, n, t', g)) hx]
    exact hv
  | 2, hx, h =>
    rw [zE_bool (M := (μ, ρ, κ, n, t, g)) hx] at hv
    rw [zE_bool (M := (μ, ρ', κ, n, t', g)) hx]
    exact hv
  | 3, hx, h =>
    rw [zE, show zk (μ, ρ, κ, n, t, g) k = (3, N) from hx] at hv
    rw [zE, show zk (μ, ρ', κ, n, t', g) k = (3, N) from hx]
    exact hv
  | a + 4, hx, h =>
    have e : ∀ cA, vp_cell cA (N, .inr (.inr (.inr (.inr (zq bs (ρ k)))))) = vp_cell cA (N, .inr (.inr (.inr (.inr (zq bs (ρ' k)))))) := by
      intro cA
      rw [vp_cell_q, vp_cell_q]
      refine arrV_congr fun j hj => ?_
      unfold zq
      rw [h j hj]
    obtain ⟨cA, e1, e2⟩ : ∃ cA, zE ca bs (μ, ρ, κ, n, t, g) k = .inl (cA, N, .inr (.inr (.inr (.inr (zq bs (ρ k)))))) ∧ zE ca bs (μ, ρ', κ, n, t', g) k = .inl (cA, N, .inr (.inr (.inr (.inr (zq bs (ρ' k)))))) := by
      cases a with
      | zero => exact ⟨ca 3, by rw [zE, show zk (μ, ρ, κ, n, t, g) k = (4, N) from hx]; rfl, by rw [zE, show zk (μ, ρ', κ, n, t', g) k = (4, N) from hx]; rfl⟩
      | succ a => exact ⟨ca 4, by rw [zE, show zk (μ, ρ, κ, n, t, g) k = (a + 5, N) from hx]; rfl, by rw [zE, show zk (μ, ρ', κ, n, t', g) k = (a + 5, N) from hx]; rfl⟩
    rw [e1] at hv
    rw [e2]
    show H[q]? = some (vp_cell _ _)
    rw [← e]
    exact hv
theorem z_swap {F : Bool} {E : Nat × (Nat → Int32)} {K : zK} {n0 : Nat} {o : zO} {pc : Nat} {ls sk : List Value} {μ : zMu} {ρ ρ' : Nat → Nat → Nat} {κ : Nat → Nat × Nat} {n : Nat} {t : Bool} {g : zLw} {u us : Nat} (h : ∀ k, k ≤ n → ∀ j, j < zbd (κ k) → ρ k j = ρ' k j)
    (kk : zV F E K n0 o pc ls sk (μ, ρ', κ, n, false, g) u us) : zV F E K n0 o pc ls sk (μ, ρ, κ, n, t, g) u us := by
  intro p l e R s m args below meth c D ca bs b H locs lr hC hR hS hA hn0 hL
  refine kk p l e R s m args below meth c D ca bs b H locs lr hC ⟨fun i q hq => ?_, (fun h => by cases h), hR.2.2⟩ hS hA hn0 hL
  rcases zw_of hq with ⟨h1, rfl⟩ | ⟨a, h1, rfl, rfl⟩
  rotate_left
  · exact hR.1 _ _ (zw_x (M := (μ, ρ, κ, n, t, g)) (a := a) h1)
  have h1' : i < n := h1
  exact zE_swap (h (i + 1) (by omega)) (hR.1 i _ (zw_at (M := (μ, ρ, κ, n, t, g)) (k := i + 1) (Nat.succ_pos i) h1'))
