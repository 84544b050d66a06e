/-! rows over the heap -/
def zu (f : Nat → Nat → Int32) (k j : Nat) (x : Int32) : Nat → Nat → Int32 := fun a b => if a = k then (if b = j then x else f a b) else f a b
def zur (f : Nat → Nat → Nat) (k j : Nat) (x : Nat) : Nat → Nat → Nat := fun a b => if a = k then (if b = j then x else f a b) else f a b
theorem zu_self (f : Nat → Nat → Int32) (k j : Nat) (x : Int32) : zu f k j x k = upd (f k) j x := by
  funext b; simp [zu, upd]
theorem zu_ne (f : Nat → Nat → Int32) {k a : Nat} (j : Nat) (x : Int32) (h : a ≠ k) : zu f k j x a = f a := by
  funext b; simp [zu, h]
theorem zur_ne (f : Nat → Nat → Nat) {k a : Nat} (j : Nat) (x : Nat) (h : a ≠ k) : zur f k j x a = f a := by
  funext b; simp [zur, h]
def zAt (M : zM) (k : Nat) (x : Nat × Nat) : Prop := zk M k = x ∧ 0 < k ∧ k ≤ zn M
/-- a field of a class, as a method of the class own links it -/
def zF (own : String) (idx ci k : Nat) : Prop := ∃ (C : String) (T : u_T) (N : Nat) (ty0 : Nat → FieldType), vwCl[ci]? = some (C, T, N) ∧ (zfl ci).length = N ∧ k < N ∧ (∀ w ∈ u_ws C T N, w ∈ zG) ∧ Cond.fieldLink own idx C (T k).2.1 (T k).2.2.1 ∈ zG ∧ (T k).1 = C ∧
  (∀ k, k < N → parseFieldDescriptor (T k).2.2.1 = some (ty0 k)) ∧ (∀ a, a < N → ∀ b, b < N → a ≠ b → (T a).2.1 ≠ (T b).2.1) ∧ ((zfl ci).getD k true = true → ty0 k = .int ∧ (T k).2.2.2 = false) ∧ ((zfl ci).getD k true = false → (T k).2.2.2 = true ∧ ∀ a : Nat, narrow (ty0 k) (.ref a) = .ref a ∧ fits (ty0 k) (.ref a) = true)
theorem zfs_get {bs : Nat} {m : Nat → Int32} {r : Nat → Nat} {fl : List Bool} {j : Nat} (h : j < fl.length) : (zfs bs m r fl)[j]? = some (zfv bs m r fl j) := by
  simp [zfs, List.getElem?_range h]
theorem zfs_len {bs : Nat} {m : Nat → Int32} {r : Nat → Nat} {fl : List Bool} : (zfs bs m r fl).length = fl.length := by simp [zfs]
theorem zfs_set {bs : Nat} {m m' : Nat → Int32} {r r' : Nat → Nat} {fl : List Bool} {j : Nat} {v : Value} (hv : zfv bs m' r' fl j = v) (ho : ∀ i, i ≠ j → m' i = m i ∧ r' i = r i) : (zfs bs m r fl).set j v = zfs bs m' r' fl := by
  apply List.ext_getElem?
  intro i
  rw [List.getElem?_set]
  by_cases hi : j = i
  · subst hi
    rw [if_pos rfl]
    by_cases hl : j < fl.length
    · rw [if_pos (by rw [zfs_len]; exact hl), zfs_get hl, hv]
    · rw [if_neg (by rw [zfs_len]; exact hl)]
      symm
      rw [List.getElem?_eq_none]
      rw [zfs_len]; omega
  · rw [if_neg hi]
    by_cases hl : i < fl.length
    · rw [zfs_get hl, zfs_get hl]
      have h := ho i (fun h => hi h.symm)
      simp [zfv, h.1, h.2]
    · rw [List.getElem?_eq_none (by rw [zfs_len]; omega), List.getElem?_eq_none (by rw [zfs_len]; omega)]
theorem zE_eq {ca : Nat → ClassId} {bs : Nat} {M M' : zM} {a : Nat} (h1 : zi M' a = zi M a) (h2 : zr M' a = zr M a) (h3 : zk M' a = zk M a) (h4 : zo M' = zo M) : zE ca bs M' a = zE ca bs M a := by
  unfold zE
  rw [h1, h2, h3]
theorem zR_set {D : va_G} {ca : Nat → ClassId} {bs : Nat} {M M' : zM} {k : Nat} {H H1 : Heap} {A : Nat → Prop} {H0 : Heap} {locs locs1 : List Loc} (hR : zR D ca bs M H) (h0 : 0 < k) (hk : k ≤ zn M) (hn : zn M' = zn M) (hx : zo M' = zo M) (ht : zt M' = zt M) (ho : ∀ j, j ≠ k → zE ca bs M' j = zE ca bs M j)
    (h : va_P D vwCl ((zw ca bs M).set (k - 1) (bs + k, zE ca bs M' k)) H1) (hz : H1.size = H.size) : zR D ca bs M' H1 := by
  rw [zw_set h0 hk hn hx ho] at h
  exact ⟨h, fun q => by rw [hz, hn]; exact hR.2.1 (ht ▸ q), by rw [hn, hz]; exact hR.2.2.1, by unfold zX0; rw [hn, hz, hx]; exact hR.2.2.2⟩
section ZH
variable {F : Bool} {E : Nat × (Nat → Int32)} {K : zK} {n0 : Nat} {o : zO} {pc : Nat} {ls sk : List Value} {M : zM} {u us : Nat}
theorem z_getI {idx ci j k : Nat} (hf : zF (zKy K).cls idx ci j) (hk : zAt M k (0, ci)) (hi : (zfl ci).getD j true = true) (d : decode (zKc K) pc = .ok (.getfield idx, 3))
    (kk : zV F E K n0 o (pc + 3) ls (.int (zi M k j) :: sk) M u us) : zV F E K n0 o pc ls (.ref k :: sk) M u us := by
  obtain ⟨C, T, N, ty0, hc, hN, hj, hin, hl, hd, -, -, -, -⟩ := hf
  obtain ⟨hk1, hk2, hk3⟩ := hk
  refine zgo (fun p l e R s m args below meth c D ca bs b H locs lr Q hC hR hL k9 => ?_) kk
  have he : (zw ca bs M)[k - 1]? = some (bs + k, .inr (ci, zfs bs (zi M k) (zr M k) (zfl ci))) := by
    rw [zw_at hk2 hk3, zE, hk1]
    rfl
  have hg := va_get (D := D) (cl := vwCl) (C := C) (T := T) (N := N) (rest := sk.map (ztr bs b)) hC.1 hC.2.1 hC.2.2.2.2.1 hin hC.2.2.2.1 hC.2.2.2.2.2.2.2.2.2.1 hR.1 (k - 1) he hc j hj (hC.2.2.2.2.1 _ hl) (fun x h => by rw [hd] at h; exact h) (v := .int (zi M k j)) (by rw [zfs_get (by rw [hN]; exact hj), zfv, if_pos hi]) d k9
  have hz : zad bs b k = bs + k := if_neg (by omega)
  show W p l e R s m args below meth c H locs u us Q (F0 m pc lr (.ref (zad bs b k) :: sk.map (ztr bs b)))
  rw [hz]
  exact hg
theorem z_getR {idx ci j k : Nat} (k1 : Nat) (hf : zF (zKy K).cls idx ci j) (hk : zAt M k (0, ci)) (hi : (zfl ci).getD j true = false) (hr : zr M k j = k1) (h1 : 0 < k1) (d : decode (zKc K) pc = .ok (.getfield idx, 3))
    (kk : zV F E K n0 o (pc + 3) ls (.ref k1 :: sk) M u us) : zV F E K n0 o pc ls (.ref k :: sk) M u us := by
  obtain ⟨C, T, N, ty0, hc, hN, hj, hin, hl, hd, -, -, -, -⟩ := hf
  obtain ⟨hk1, hk2, hk3⟩ := hk
  refine zgo (fun p l e R s m args below meth c D ca bs b H locs lr Q hC hR hL k9 => ?_) kk
  have he : (zw ca bs M)[k - 1]? = some (bs + k, .inr (ci, zfs bs (zi M k) (zr M k) (zfl ci))) := by
    rw [zw_at hk2 hk3, zE, hk1]
    rfl
  have hz1 : zad bs b k1 = bs + k1 := if_neg (by omega)
  have k9' : W p l e R s m args below meth c H locs u us Q (F0 m (pc + 3) lr (.ref (zad bs b k1) :: sk.map (ztr bs b))) := k9
  rw [hz1] at k9'
  have hg := va_get (D := D) (cl := vwCl) (C := C) (T := T) (N := N) (rest := sk.map (ztr bs b)) hC.1 hC.2.1 hC.2.2.2.2.1 hin hC.2.2.2.1 hC.2.2.2.2.2.2.2.2.2.1 hR.1 (k - 1) he hc j hj (hC.2.2.2.2.1 _ hl) (fun x h => by rw [hd] at h; exact h) (v := .ref (bs + k1)) (by rw [zfs_get (by rw [hN]; exact hj), zfv, if_neg (by rw [hi]; decide), hr, if_neg (by omega)]) d k9'
  have hz : zad bs b k = bs + k := if_neg (by omega)
  show W p l e R s m args below meth c H locs u us Q (F0 m pc lr (.ref (zad bs b k) :: sk.map (ztr bs b)))
  rw [hz]
  exact hg
/-- the ways into the next state when one cell was set -/
theorem zV_next {p : Program} {l : Launch} {e : Env} {R : Room} {s : State} {m : MethodId} {args : Array Value} {below : List Frame} {meth : Method} {c : Code} {D : va_G} {ca : Nat → ClassId} {bs b : Nat} {H H1 : Heap} {locs1 : List Loc} {lr : Array Slot} {M' : zM} {k : Nat} {pc' : Nat} {sk' : List Value}
    (kk : zV F E K n0 o pc' ls sk' M' u us) (hC : zC E K p l R s m args meth c D ca bs b n0) (hR : zR D ca bs M H) (hA : ∀ q, bs < q → q ≤ bs + zn M → zA bs n0 s.heap.size q) (hn0 : n0 ≤ zn M) (hL : zL bs b ls lr (zKl K)) (h0 : 0 < k) (hk : k ≤ zn M) (hn : zn M' = zn M) (hx : zo M' = zo M) (ht : zt M' = zt M) (ho : ∀ j, j ≠ k → zE ca bs M' j = zE ca bs M j)
    (hP : va_P D vwCl ((zw ca bs M).set (k - 1) (bs + k, zE ca bs M' k)) H1) (hz : H1.size = H.size) (hS : va_S (zA bs n0 s.heap.size) s.heap H1 locs1) :
    W p l e R s m args below meth c H1 locs1 u us (zFin F K n0 o D ca bs b below args s) (F0 m pc' lr (sk'.map (ztr bs b))) :=
  kk p l e R s m args below meth c D ca bs b H1 locs1 lr hC (zR_set hR h0 hk hn hx ht ho hP hz (A := fun _ => True) (H0 := H) (locs := []) (locs1 := [])) hS (by rw [hn]; exact hA) (by rw [hn]; exact hn0) hL
theorem zE_obj {ca : Nat → ClassId} {bs k ci : Nat} {M : zM} (h : zk M k = (0, ci)) : zE ca bs M k = .inr (ci, zfs bs (zi M k) (zr M k) (zfl ci)) := by rw [zE, h]; rfl
theorem zE_int {ca : Nat → ClassId} {bs k n : Nat} {M : zM} (h : zk M k = (1, n)) : zE ca bs M k = .inl (ca 0, n, .inl (zi M k)) := by rw [zE, h]; rfl
theorem zE_bool {ca : Nat → ClassId} {bs k n : Nat} {M : zM} (h : zk M k = (2, n)) : zE ca bs M k = .inl (ca 1, n, .inl (zi M k)) := by rw [zE, h]; rfl
theorem zE_ref {ca : Nat → ClassId} {bs k n t : Nat} {M : zM} (ht : t = 4 ∨ t = 5) (h : zk M k = (t, n)) : zE ca bs M k = .inl (ca (t - 1), n, .inr (.inr (.inr (.inr (zq bs (zr M k)))))) := by rcases ht with rfl | rfl <;> (rw [zE, h]; rfl)
theorem zw_e {ca : Nat → ClassId} {bs k : Nat} {M : zM} {x : Nat × Nat} {e : va_E} (hk : zAt M k x) (he : zE ca bs M k = e) : (zw ca bs M)[k - 1]? = some (bs + k, e) := by rw [zw_at hk.2.1 hk.2.2, he]
theorem zad_eq {bs b k : Nat} (h : 0 < k) : zad bs b k = bs + k := if_neg (by omega)
theorem z_putI {idx ci j k : Nat} {x : Int32} (hf : zF (zKy K).cls idx ci j) (hk : zAt M k (0, ci)) (hi : (zfl ci).getD j true = true) (d : decode (zKc K) pc = .ok (.putfield idx, 3))
    (kk : zV F E K n0 o (pc + 3) ls sk (zu (zi M) k j x, M.2) u us) : zV F E K n0 o pc ls (.int x :: .ref k :: sk) M u us := by
  intro p l e R s m args below meth c D ca bs b H locs lr hC hR hS hA hn0 hL
  obtain ⟨C, T, N, ty0, hc, hN, hj, hin, hl, hd, hty, hnm, htI, -⟩ := hf
  obtain ⟨ht1, hfin⟩ := htI hi
  have hK := hC.2.2.2.2.2.2.2.2.2.1
  have hts := hC.2.2.2.2.1
  have he := zw_e (ca := ca) (bs := bs) hk (zE_obj hk.1)
  have hap := va_apart (own := C) hts hin ty0 hty hnm hK hc
  obtain ⟨r, h1, cell, q1, q2, q3, q4⟩ := hR.1 (k - 1) _ he
  cases Option.some.inj (h1.symm.trans hc)
  obtain ⟨hS9, hfc, kC, hkC, hkind⟩ := hK.1 ci _ hc
  obtain ⟨cf, kf, fi, f, hi9, hsl⟩ := hS9 j hj
  have hlay := hts _ (hin _ (u_in_lay hj))
  unfold u_lay at hlay
  rw [if_neg (by rw [hfin]; decide)] at hlay
  have hst := (u_facts hfc hkC (u_lays hts hin hj) hi9).1
  have h6 := u_store (v := .int x) hfc hkC hkind hlay hi9 (hty j hj) (by rw [ht1]; rfl) (by rw [ht1]; rfl)
  rw [hd] at hi9
  have hz := zad_eq (bs := bs) (b := b) hk.2.1
  show W p l e R s m args below meth c H locs u us _ (F0 m pc lr (.int x :: .ref (zad bs b k) :: sk.map (ztr bs b)))
  rw [hz]
  refine W.putK hC.1 hC.2.1 (f := f) ⟨hC.2.2.2.1, hts _ hl, ⟨_, _, _, hi9⟩, hst⟩ (by rw [q2]; exact h6) q1 q3 (by rw [hsl]; exact k2_hasslot (q4 j hj)) rfl rfl d fun H1 e1 e2 e3 => ?_
  rw [hsl] at e1 ⊢
  have hjl : j < (zfs bs (zi M k) (zr M k) (zfl ci)).length := by rw [zfs_len, hN]; exact hj
  refine zV_next (M := M) (k := k) kk hC hR hA hn0 hL hk.2.1 hk.2.2 rfl rfl rfl (fun a ha => zE_eq (zu_ne _ _ _ ha) rfl rfl rfl) ?_ e2 (hS.put e2 e3 (hA _ (by have := hk.2.1; omega) (by have := hk.2.2; omega)))
  refine hR.1.set (zw_D hR.2.2.2) he ?_ e3
  rw [zE_obj (M := (zu (zi M) k j x, M.2)) hk.1]
  refine ⟨_, hc, t_OB.to (V := updV (vp_V (zfs bs (zi M k) (zr M k) (zfl ci))) j (.int x)) ⟨_, e1, q2, q3, t_set q4 hap hj (.int x)⟩ (fun i _ => ?_)⟩
  rw [vp_updV_set hjl]
  rw [zfs_set (m' := (zu (zi M) k j x) k) (r' := zr M k)]
  · show zfv bs _ _ _ j = _
    rw [zfv, if_pos hi]
    simp [zu]
  · intro i hi; simp [zu, hi]
/-- a final field in its constructor -/
theorem z_putR {idx ci j k k1 : Nat} (hf : zF (zKy K).cls idx ci j) (hk : zAt M k (0, ci)) (hi : (zfl ci).getD j true = false) (h1 : 0 < k1) (hin : (zKy K).name = "<init>") (hdecl : ∀ C T N, vwCl[ci]? = some (C, T, N) → C = (zKy K).cls) (d : decode (zKc K) pc = .ok (.putfield idx, 3))
    (kk : zV F E K n0 o (pc + 3) ls sk (zi M, zur (zr M) k j k1, M.2.2) u us) : zV F E K n0 o pc ls (.ref k1 :: .ref k :: sk) M u us := by
  intro p l e R s m args below meth c D ca bs b H locs lr hC hR hS hA hn0 hL
  obtain ⟨C, T, N, ty0, hc, hN, hj, hin9, hl, hd, hty, hnm, -, htR⟩ := hf
  obtain ⟨hfin, htR⟩ := htR hi
  obtain ⟨hnar, hfit⟩ := htR (bs + k1)
  have hK := hC.2.2.2.2.2.2.2.2.2.1
  have hts := hC.2.2.2.2.1
  have he := zw_e (ca := ca) (bs := bs) hk (zE_obj hk.1)
  have hap := va_apart (own := C) hts hin9 ty0 hty hnm hK hc
  obtain ⟨r, hr1, cell, q1, q2, q3, q4⟩ := hR.1 (k - 1) _ he
  cases Option.some.inj (hr1.symm.trans hc)
  obtain ⟨hS9, hfc, kC, hkC, hkind⟩ := hK.1 ci _ hc
  obtain ⟨cf, kf, fi, f, hi9, hsl⟩ := hS9 j hj
  have hlay := hts _ (hin9 _ (u_in_lay hj))
  unfold u_lay at hlay
  rw [if_pos hfin] at hlay
  have hst := (u_facts hfc hkC (u_lays hts hin9 hj) hi9).1
  have hcf : m.cls = cf := by
    obtain ⟨_, _, c', _, _, _, -, -, hf', -, -, -, hown2, -⟩ := Cond.laysFinal_spec hlay
    have e1 : c' = cf := by have := hi9.symm.trans hf'; simp at this; exact this.1.symm
    rw [hd, hdecl _ _ _ hc] at hown2
    rw [← e1]; exact Option.some.inj (hC.2.2.2.1.symm.trans hown2)
  have h6 := u_fits hfc hkC hkind (Or.inr hlay) hi9 (hty j hj) hnar hfit
  rw [hd] at hi9
  have hz := zad_eq (bs := bs) (b := b) hk.2.1
  have hz1 := zad_eq (bs := bs) (b := b) h1
  show W p l e R s m args below meth c H locs u us _ (F0 m pc lr (.ref (zad bs b k1) :: .ref (zad bs b k) :: sk.map (ztr bs b)))
  rw [hz, hz1]
  refine W.putFinK hC.1 hC.2.1 hC.2.2.2.1 (hts _ hl) hi9 hst hcf (hC.2.2.2.2.2.2.2.2.2.2.2.2.2.2 hin) (by rw [q2]; exact h6) q1 q3 (by rw [hsl]; exact k2_hasslot (q4 j hj)) rfl rfl d fun H1 e1 e2 e3 => ?_
  rw [hsl] at e1 ⊢
  have hjl : j < (zfs bs (zi M k) (zr M k) (zfl ci)).length := by rw [zfs_len, hN]; exact hj
  refine zV_next (M := M) (k := k) kk hC hR hA hn0 hL hk.2.1 hk.2.2 rfl rfl rfl (fun a ha => zE_eq rfl (zur_ne _ _ _ ha) rfl rfl) ?_ e2 (hS.put e2 e3 (hA _ (by have := hk.2.1; omega) (by have := hk.2.2; omega)))
  refine hR.1.set (zw_D hR.2.2.2) he ?_ e3
  rw [zE_obj (M := (zi M, zur (zr M) k j k1, M.2.2)) hk.1]
  refine ⟨_, hc, t_OB.to (V := updV (vp_V (zfs bs (zi M k) (zr M k) (zfl ci))) j (.ref (bs + k1))) ⟨_, e1, q2, q3, t_set q4 hap hj (.ref (bs + k1))⟩ (fun i _ => ?_)⟩
  rw [vp_updV_set hjl]
  rw [zfs_set (m' := zi M k) (r' := (zur (zr M) k j k1) k)]
  · show zfv bs _ _ _ j = _
    rw [zfv, if_neg (by rw [hi]; decide)]
    simp [zur]
    omega
  · intro i hi; simp [zur, hi]
theorem z_iald {n k : Nat} {i : Int32} (hk : zAt M k (1, n)) (hin : vp_in i n) (d : decode (zKc K) pc = .ok (.iaload, 1))
    (kk : zV F E K n0 o (pc + 1) ls (.int (zi M k i.toNatClampNeg) :: sk) M u us) : zV F E K n0 o pc ls (.int i :: .ref k :: sk) M u us := by
  refine zgo (fun p l e R s m args below meth c D ca bs b H locs lr Q hC hR hL k9 => ?_) kk
  show W p l e R s m args below meth c H locs u us Q (F0 m pc lr (.int i :: .ref (zad bs b k) :: sk.map (ztr bs b)))
  rw [zad_eq hk.2.1]
  exact va_iald (rest := sk.map (ztr bs b)) hC.1 hC.2.1 hC.2.2.2.2.2.2.2.2.2.1 hR.1 (k - 1) 0 (zw_e hk (zE_int hk.1)) rfl hin d k9
theorem z_zald {n k : Nat} {i : Int32} (hk : zAt M k (2, n)) (hin : vp_in i n) (d : decode (zKc K) pc = .ok (.baload, 1))
    (kk : zV F E K n0 o (pc + 1) ls (.int (zi M k i.toNatClampNeg) :: sk) M u us) : zV F E K n0 o pc ls (.int i :: .ref k :: sk) M u us := by
  refine zgo (fun p l e R s m args below meth c D ca bs b H locs lr Q hC hR hL k9 => ?_) kk
  show W p l e R s m args below meth c H locs u us Q (F0 m pc lr (.int i :: .ref (zad bs b k) :: sk.map (ztr bs b)))
  rw [zad_eq hk.2.1]
  exact va_zald (rest := sk.map (ztr bs b)) hC.1 hC.2.1 hC.2.2.2.2.2.2.2.2.2.1 hR.1 (k - 1) 1 (zw_e hk (zE_bool hk.1)) rfl hin d k9
theorem z_aald {n k t k1 : Nat} {i : Int32} (ht : t = 4 ∨ t = 5) (hk : zAt M k (t, n)) (hin : vp_in i n) (hr : zr M k i.toNatClampNeg = k1) (h1 : 0 < k1) (d : decode (zKc K) pc = .ok (.aaload, 1))
    (kk : zV F E K n0 o (pc + 1) ls (.ref k1 :: sk) M u us) : zV F E K n0 o pc ls (.int i :: .ref k :: sk) M u us := by
  refine zgo (fun p l e R s m args below meth c D ca bs b H locs lr Q hC hR hL k9 => ?_) kk
  show W p l e R s m args below meth c H locs u us Q (F0 m pc lr (.int i :: .ref (zad bs b k) :: sk.map (ztr bs b)))
  rw [zad_eq hk.2.1]
  have k9' : W p l e R s m args below meth c H locs u us Q (F0 m (pc + 1) lr (.ref (zad bs b k1) :: sk.map (ztr bs b))) := k9
  rw [zad_eq h1] at k9'
  have hq : zq bs (zr M k) i.toNatClampNeg = some (bs + k1) := by rw [zq, hr, if_neg (by omega)]
  rcases ht with rfl | rfl
  · exact va_aldq (rest := sk.map (ztr bs b)) (C := RX0) hC.1 hC.2.1 hC.2.2.2.2.2.2.2.2.2.1 hR.1 (k - 1) 3 (zw_e hk (zE_ref (Or.inl rfl) hk.1)) rfl hin d (by rw [hq]; exact k9')
  · exact va_aldq (rest := sk.map (ztr bs b)) (C := RX2) hC.1 hC.2.1 hC.2.2.2.2.2.2.2.2.2.1 hR.1 (k - 1) 4 (zw_e hk (zE_ref (Or.inr rfl) hk.1)) rfl hin d (by rw [hq]; exact k9')
theorem z_iast {n k : Nat} {i x : Int32} (hk : zAt M k (1, n)) (hin : vp_in i n) (d : decode (zKc K) pc = .ok (.iastore, 1))
    (kk : zV F E K n0 o (pc + 1) ls sk (zu (zi M) k i.toNatClampNeg x, M.2) u us) : zV F E K n0 o pc ls (.int x :: .int i :: .ref k :: sk) M u us := by
  intro p l e R s m args below meth c D ca bs b H locs lr hC hR hS hA hn0 hL
  have hK := hC.2.2.2.2.2.2.2.2.2.1
  have he := zw_e (ca := ca) (bs := bs) hk (zE_int hk.1)
  show W p l e R s m args below meth c H locs u us _ (F0 m pc lr (.int x :: .int i :: .ref (zad bs b k) :: sk.map (ztr bs b)))
  rw [zad_eq hk.2.1]
  refine W.iast hC.1 hC.2.1 (hR.1 (k - 1) _ he) ((hK.2 0 _ rfl).1 n (fun j => .int (zi M k j))) (fun q => by cases q) (by show ¬ (i < 0 ∨ (arrV _ _ _).slots.size ≤ _); rw [arrV_size]; exact hin) rfl rfl d fun H1 e1 e2 e3 => ?_
  refine zV_next (M := M) (k := k) kk hC hR hA hn0 hL hk.2.1 hk.2.2 rfl rfl rfl (fun a ha => zE_eq (zu_ne _ _ _ ha) rfl rfl rfl) ?_ e2 (hS.put e2 e3 (hA _ (by have := hk.2.1; omega) (by have := hk.2.2; omega)))
  refine hR.1.set (zw_D hR.2.2.2) he ?_ e3
  rw [zE_int (M := (zu (zi M) k i.toNatClampNeg x, M.2)) hk.1]
  show H1[bs + k]? = some (vp_cell _ _)
  rw [e1, vp_cell_i, vp_cell_i, arrV_store]
  show some (arrV _ _ _) = some (arrV _ _ (fun j => .int (zu (zi M) k i.toNatClampNeg x k j)))
  rw [zu_self]
  congr 2
  funext q
  by_cases hq : q = i.toNatClampNeg
  · subst hq
    simp [updV, upd]
  · simp [updV, upd, hq]
theorem z_zast {n k : Nat} {i x : Int32} (hk : zAt M k (2, n)) (hin : vp_in i n) (hx : x = 0 ∨ x = 1) (d : decode (zKc K) pc = .ok (.bastore, 1))
    (kk : zV F E K n0 o (pc + 1) ls sk (zu (zi M) k i.toNatClampNeg x, M.2) u us) : zV F E K n0 o pc ls (.int x :: .int i :: .ref k :: sk) M u us := by
  intro p l e R s m args below meth c D ca bs b H locs lr hC hR hS hA hn0 hL
  have hK := hC.2.2.2.2.2.2.2.2.2.1
  have he := zw_e (ca := ca) (bs := bs) hk (zE_bool hk.1)
  have hnx : narrow .boolean (.int x) = .int x := by rcases hx with rfl | rfl <;> rfl
  show W p l e R s m args below meth c H locs u us _ (F0 m pc lr (.int x :: .int i :: .ref (zad bs b k) :: sk.map (ztr bs b)))
  rw [zad_eq hk.2.1]
  refine W.zast hC.1 hC.2.1 (hR.1 (k - 1) _ he) ((hK.2 1 _ rfl).1 n (fun j => .int (zi M k j))) (fun q => by cases q) (by show ¬ (i < 0 ∨ (arrV _ _ _).slots.size ≤ _); rw [arrV_size]; exact hin) rfl rfl d fun H1 e1 e2 e3 => ?_
  rw [hnx] at e1
  refine zV_next (M := M) (k := k) kk hC hR hA hn0 hL hk.2.1 hk.2.2 rfl rfl rfl (fun a ha => zE_eq (zu_ne _ _ _ ha) rfl rfl rfl) ?_ e2 (hS.put e2 e3 (hA _ (by have := hk.2.1; omega) (by have := hk.2.2; omega)))
  refine hR.1.set (zw_D hR.2.2.2) he ?_ e3
  rw [zE_bool (M := (zu (zi M) k i.toNatClampNeg x, M.2)) hk.1]
  show H1[bs + k]? = some (vp_cell _ _)
  rw [e1, vp_cell_i, vp_cell_i, arrV_store]
  show some (arrV _ _ _) = some (arrV _ _ (fun j => .int (zu (zi M) k i.toNatClampNeg x k j)))
  rw [zu_self]
  congr 2
  funext q
  by_cases hq : q = i.toNatClampNeg
  · subst hq
    simp [updV, upd]
  · simp [updV, upd, hq]
theorem zw_xset {ca : Nat → ClassId} {bs a k i : Nat} {x : Int32} {J : Nat → Nat} {m : Nat} {ν : Nat → Nat → Int32} {M : zM} (hx : zo M = (J, m, ν)) (hk : k ≠ zn M + a) : (zw ca bs (zi M, zr M, zk M, zn M, zt M, (J, m, zu ν a i x)))[k]? = (zw ca bs M)[k]? := by
  obtain ⟨μ, ρ, κ, n, t, g⟩ := M
  have hx : g = (J, m, ν) := hx
  subst hx
  by_cases h : k < n
  · have h1 := zw_at (ca := ca) (bs := bs) (M := (μ, ρ, κ, n, t, (J, m, zu ν a i x))) (k := k + 1) (by omega) h
    have h2 := zw_at (ca := ca) (bs := bs) (M := (μ, ρ, κ, n, t, (J, m, ν))) (k := k + 1) (by omega) h
    exact h1.trans h2.symm
  · obtain ⟨a', rfl⟩ : ∃ a', k = n + a' := ⟨k - n, by omega⟩
    have hk : n + a' ≠ n + a := hk
    by_cases h3 : a' < m
    · have h1 := zw_x (ca := ca) (bs := bs) (M := (μ, ρ, κ, n, t, (J, m, zu ν a i x))) (a := a') h3
      have h2 := zw_x (ca := ca) (bs := bs) (M := (μ, ρ, κ, n, t, (J, m, ν))) (a := a') h3
      refine h1.trans (Eq.trans ?_ h2.symm)
      show some (bs + J a', Sum.inl (ca 0, zlen a', Sum.inl (zu ν a i x a'))) = _
      rw [zu_ne ν i x (by omega)]
    · rw [List.getElem?_eq_none (by simp [zw, zx]; omega), List.getElem?_eq_none (by simp [zw, zx]; omega)]
/-- an array of the law's own -/
theorem z_xald {J : Nat → Nat} {m : Nat} {ν : Nat → Nat → Int32} {i : Int32} (a : Nat) (hx : zo M = (J, m, ν)) (ha : a < m) (hin : vp_in i (zlen a)) (d : decode (zKc K) pc = .ok (.iaload, 1))
    (kk : zV F E K n0 o (pc + 1) ls (.int (ν a i.toNatClampNeg) :: sk) M u us) : zV F E K n0 o pc ls (.int i :: .ref (J a) :: sk) M u us := by
  refine zgo (fun p l e R s m' args below meth c D ca bs b H locs lr Q hC hR hL k9 => ?_) kk
  have h1 := (hR.2.2.2.1 a (by rw [hx]; exact ha)).1
  rw [hx] at h1
  show W p l e R s m' args below meth c H locs u us Q (F0 m' pc lr (.int i :: .ref (zad bs b (J a)) :: sk.map (ztr bs b)))
  rw [zad_eq (by have : zn M < J a := h1; omega)]
  have he := zw_x (ca := ca) (bs := bs) (M := M) (a := a) (by rw [hx]; exact ha)
  rw [hx] at he
  exact va_iald (rest := sk.map (ztr bs b)) hC.1 hC.2.1 hC.2.2.2.2.2.2.2.2.2.1 hR.1 (zn M + a) 0 he rfl hin d k9
theorem z_xast {J : Nat → Nat} {m : Nat} {ν : Nat → Nat → Int32} {i x : Int32} (a : Nat) (hx : zo M = (J, m, ν)) (ha : a < m) (hin : vp_in i (zlen a)) (hn9 : n0 = 0) (hn1 : 0 < zn M) (d : decode (zKc K) pc = .ok (.iastore, 1))
    (kk : zV F E K n0 o (pc + 1) ls sk (zi M, zr M, zk M, zn M, zt M, (J, m, zu ν a i.toNatClampNeg x)) u us) : zV F E K n0 o pc ls (.int x :: .int i :: .ref (J a) :: sk) M u us := by
  intro p l e R s m' args below meth c D ca bs b H locs lr hC hR hS hA hn0 hL
  have hK := hC.2.2.2.2.2.2.2.2.2.1
  obtain ⟨R1, R2, R3, R4, R5⟩ := id hR
  have h1 := R4 a (by rw [hx]; exact ha)
  rw [hx] at h1
  have h1a : zn M < J a := h1.1
  have he := zw_x (ca := ca) (bs := bs) (M := M) (a := a) (by rw [hx]; exact ha)
  rw [hx] at he
  show W p l e R s m' args below meth c H locs u us _ (F0 m' pc lr (.int x :: .int i :: .ref (zad bs b (J a)) :: sk.map (ztr bs b)))
  rw [zad_eq (by omega)]
  have hAa : zA bs n0 s.heap.size (bs + J a) := by
    subst hn9
    rcases hA (bs + 1) (by omega) (by omega) with h | h
    · omega
    · right; omega
  refine W.iast hC.1 hC.2.1 (hR.1 (zn M + a) _ he) ((hK.2 0 _ rfl).1 (zlen a) (fun j => .int (ν a j))) (fun q => by cases q) (by show ¬ (i < 0 ∨ (arrV _ _ _).slots.size ≤ _); rw [arrV_size]; exact hin) rfl rfl d fun H1 e1 e2 e3 => ?_
  refine kk p l e R s m' args below meth c D ca bs b H1 _ lr hC ⟨?_, fun h => by rw [e2]; exact R2 h, by rw [e2]; exact R3, ?_⟩ (hS.put e2 e3 hAa) hA hn0 hL
  · have h9 := hR.1.set (H1 := H1) (zw_D hR.2.2.2) he (e := .inl (ca 0, zlen a, .inl (upd (ν a) i.toNatClampNeg x))) (by
      show H1[bs + J a]? = some (vp_cell _ _)
      rw [e1, vp_cell_i, vp_cell_i, arrV_store]
      congr 2
      funext q
      by_cases hq : q = i.toNatClampNeg
      · subst hq
        simp [updV, upd]
      · simp [updV, upd, hq]) e3
    intro k q hq
    refine h9 k q ?_
    rw [← hq, List.getElem?_set]
    by_cases hk : zn M + a = k
    · subst hk
      have hb : zn M + a < (zw ca bs M).length := (List.getElem?_eq_some_iff.mp he).1
      rw [if_pos rfl, if_pos hb]
      have h3 := zw_x (ca := ca) (bs := bs) (M := (zi M, zr M, zk M, zn M, zt M, (J, m, zu ν a i.toNatClampNeg x))) (a := a) ha
      refine Eq.trans ?_ h3.symm
      show some (bs + J a, _) = some (bs + J a, Sum.inl (ca 0, zlen a, Sum.inl (zu ν a i.toNatClampNeg x a)))
      rw [zu_self]
    · rw [if_neg hk]
      exact (zw_xset hx (fun h => hk h.symm)).symm
  · rw [hx] at R4 R5
    show (∀ a', a' < m → zn M < J a' ∧ bs + J a' < H1.size) ∧ _
    rw [e2]
    exact ⟨R4, R5⟩
end ZH
