/-! rows that make cells; Object's constructor -/
def zkp (κ : Nat → Nat × Nat) (k : Nat) (x : Nat × Nat) : Nat → Nat × Nat := fun a => if a = k then x else κ a
/-- a new cell of kind x: all zero -/
def zNew (M : zM) (x : Nat × Nat) : zM := (fun a => if a = zn M + 1 then fun _ => 0 else zi M a, fun a => if a = zn M + 1 then fun _ => 0 else zr M a, zkp (zk M) (zn M + 1) x, zn M + 1, zt M, zo M)
theorem zNew_old {ca : Nat → ClassId} {bs : Nat} {M : zM} {x : Nat × Nat} {j : Nat} (h : j ≤ zn M) : zE ca bs (zNew M x) j = zE ca bs M j := by
  have h1 : j ≠ zn M + 1 := by omega
  exact zE_eq (if_neg h1 : (if j = zn M + 1 then fun _ => 0 else zi M j) = zi M j) (if_neg h1 : (if j = zn M + 1 then fun _ => 0 else zr M j) = zr M j) (if_neg h1 : (if j = zn M + 1 then x else zk M j) = zk M j) rfl
theorem zNew_k (M : zM) (x : Nat × Nat) : zk (zNew M x) (zn M + 1) = x := (if_pos rfl : (if zn M + 1 = zn M + 1 then x else zk M (zn M + 1)) = x)
theorem zNew_i (M : zM) (x : Nat × Nat) : zi (zNew M x) (zn M + 1) = fun _ => 0 := (if_pos rfl : (if zn M + 1 = zn M + 1 then (fun _ => 0) else zi M (zn M + 1)) = fun _ => 0)
theorem zNew_r (M : zM) (x : Nat × Nat) : zr (zNew M x) (zn M + 1) = fun _ => 0 := (if_pos rfl : (if zn M + 1 = zn M + 1 then (fun _ => 0) else zr M (zn M + 1)) = fun _ => 0)
/-- a class of our own, as a method of the class own makes objects of it -/
def zN (own : String) (idx ci : Nat) : Prop := ∃ (C : String) (T : u_T) (N : Nat) (ty0 : Nat → FieldType), vwCl[ci]? = some (C, T, N) ∧ (zfl ci).length = N ∧ (∀ w ∈ u_ws C T N, w ∈ zG) ∧ Cond.classLink own idx C ∈ zG ∧ Cond.instantiable C N ∈ zG ∧ Cond.initialized C ∈ zG ∧
  (∀ k, k < N → parseFieldDescriptor (T k).2.2.1 = some (ty0 k)) ∧ ∀ j, j < N → defaultValue (ty0 j) = if (zfl ci).getD j true = true then .int 0 else .null
theorem zX0_0 {bs sz : Nat} {M : zM} (h : (zo M).2.1 = 0) : zX0 bs M sz := ⟨fun a ha => absurd ha (by omega), fun a a' _ ha => absurd ha (by omega)⟩
section ZA
variable {F : Bool} {E : Nat × (Nat → Int32)} {K : zK} {n0 : Nat} {o : zO} {pc : Nat} {ls sk : List Value} {M : zM} {u us : Nat}
theorem zV_new {p : Program} {l : Launch} {e : Env} {R : Room} {s : State} {m : MethodId} {args : Array Value} {below : List Frame} {meth : Method} {c : Code} {D : va_G} {ca : Nat → ClassId} {bs b : Nat} {H H1 : Heap} {locs : List Loc} {lr : Array Slot} {x : Nat × Nat} {pc' : Nat} {sk' : List Value}
    (kk : zV F E K n0 o pc' ls sk' (zNew M x) u us) (hC : zC E K p l R s m args meth c D ca bs b n0) (hR : zR D ca bs M H) (hx : (zo M).2.1 = 0) (ht : H.size = bs + zn M + 1) (hS : va_S (zA bs n0 s.heap.size) s.heap H locs) (hA : ∀ q, bs < q → q ≤ bs + zn M → zA bs n0 s.heap.size q) (hn0 : n0 ≤ zn M) (hL : zL bs b ls lr (zKl K))
    (z1 : H1.size = H.size + 1) (o1 : ∀ q, q < H.size → H1[q]? = H[q]?) (hat : va_at D vwCl (bs + (zn M + 1), zE ca bs (zNew M x) (zn M + 1)) H1) :
    W p l e R s m args below meth c H1 locs u us (zFin F K n0 o D ca bs b below args s) (F0 m pc' lr (sk'.map (ztr bs b))) := by
  have hz : s.heap.size ≤ H.size := hS.1
  refine kk p l e R s m args below meth c D ca bs b H1 locs lr hC ⟨?_, fun _ => by rw [z1, ht]; show _ = bs + (zn M + 1) + 1; omega, by rw [z1, ht]; show bs + (zn M + 1) < _; omega, zX0_0 hx⟩ ⟨by omega, fun q h1 h2 => (o1 q (by omega)).trans (hS.2.1 q h1 h2), hS.2.2⟩ (fun q h1 h2 => ?_) (by show n0 ≤ zn M + 1; omega) hL
  · rw [← zw_push (M := M) (M' := zNew M x) rfl hx hx (fun j hj => zNew_old hj)]
    refine (hR.1.kept fun k q hq => ?_).app (fun k q hq => ?_)
    · exact o1 _ (hR.1 k q hq).lt
    · have hk : k < 1 := (List.getElem?_eq_some_iff.mp hq).1
      rw [show k = 0 by omega] at hq
      cases hq
      exact hat
  · by_cases hq : q ≤ bs + zn M
    · exact hA q h1 hq
    · right
      have h3 : q ≤ bs + (zn M + 1) := h2
      omega
theorem z_new {idx ci N : Nat} (hN9 : zN (zKy K).cls idx ci) (hN : (zfl ci).length = N) (ht : zt M = true) (hx : (zo M).2.1 = 0) (hc : u + 1 ≤ zKm K) (hs : us + N ≤ zKs K) (d : decode (zKc K) pc = .ok (.new idx, 3))
    (kk : zV F E K n0 o (pc + 3) ls (.ref (zn M + 1) :: sk) (zNew M (0, ci)) (u + 1) (us + N)) : zV F E K n0 o pc ls sk M u us := by
  intro p l e R s m args below meth c D ca bs b H locs lr hC hR hS hA hn0 hL
  obtain ⟨C, T, N', ty0, hcl, hN', hin, h1, h2, h3, hty, hdf⟩ := hN9
  have hNN : N' = N := hN'.symm.trans hN
  subst hNN
  have hK := hC.2.2.2.2.2.2.2.2.2.1
  have hts := hC.2.2.2.2.1
  have hKn := hK.1 ci _ hcl
  have hRm : R = zrm K := hC.2.2.2.2.2.2.1
  refine W.newcK hC.1 hC.2.1 hC.2.2.2.1 (hts _ h1) (hts _ h2) (hts _ h3) rfl d (by rw [hRm]; exact hc) (by rw [hRm]; exact hs) hKn.2.1 rfl fun H1 kC hkC e1 z1 o1 => ?_
  have hsz := hR.2.1 ht
  have hz : zad bs b (zn M + 1) = H.size := by rw [zad_eq (by omega), hsz]; omega
  have h9 := zV_new (x := (0, ci)) (H1 := H1) (lr := lr) (below := below) (e := e) kk hC hR hx hsz hS hA hn0 hL z1 o1 (by
    rw [zE_obj (zNew_k M (0, ci)), zNew_i, zNew_r, show bs + (zn M + 1) = H.size by omega]
    refine ⟨_, hcl, (u_born ty0 hts hin hKn hkC e1 hty).to fun j hj => ?_⟩
    have hv : vp_V (zfs bs (fun _ => 0) (fun _ => 0) (zfl ci)) j = zfv bs (fun _ => 0) (fun _ => 0) (zfl ci) j := by
      show (zfs bs (fun _ => 0) (fun _ => 0) (zfl ci)).getD j .null = _
      rw [List.getD_eq_getElem?_getD, zfs_get (by omega)]
      rfl
    rw [hdf j hj]
    show _ = vp_V (zfs bs (fun _ => 0) (fun _ => 0) (zfl ci)) j
    rw [hv, zfv]
    rfl)
  have h9' : W p l e R s m args below meth c H1 locs (u + 1) (us + N') (zFin F K n0 o D ca bs b below args s) (F0 m (pc + 3) lr (.ref (zad bs b (zn M + 1)) :: sk.map (ztr bs b))) := h9
  rw [hz] at h9'
  exact h9'
theorem z_newarr {atype : ArrayType} {t N : Nat} {n : Int32} (htt : (t = 1 ∧ atype = .int) ∨ (t = 2 ∧ atype = .boolean) ∨ (t = 3 ∧ False)) (hw : Cond.arrayClass (newarray.typeOf atype) ∈ zG) (hn : ¬ n < 0) (hN : n.toNatClampNeg = N) (hN2 : N ≤ 1000) (ht : zt M = true) (hx : (zo M).2.1 = 0) (hc : u + 1 ≤ zKm K) (hs : us + N ≤ zKs K) (d : decode (zKc K) pc = .ok (.newarray atype, 2))
    (kk : zV F E K n0 o (pc + 2) ls (.ref (zn M + 1) :: sk) (zNew M (t, N)) (u + 1) (us + N)) : zV F E K n0 o pc ls (.int n :: sk) M u us := by
  intro p l e R s m args below meth c D ca bs b H locs lr hC hR hS hA hn0 hL
  have hK := hC.2.2.2.2.2.2.2.2.2.1
  have hts := hC.2.2.2.2.1
  have hRm : R = zrm K := hC.2.2.2.2.2.2.1
  have hsz := hR.2.1 ht
  have hz : zad bs b (zn M + 1) = H.size := by rw [zad_eq (by omega), hsz]; omega
  have hb : N * componentBytes (newarray.typeOf atype) ≤ 536870912 := by
    rcases htt with ⟨-, rfl⟩ | ⟨-, rfl⟩ | ⟨-, h0⟩
    · show N * 4 ≤ _; omega
    · show N * 1 ≤ _; omega
    · exact h0.elim
  refine va_newaK hC.1 hC.2.1 (hts _ hw) rfl d rfl hn hN hb (by rw [hRm]; exact hc) (by rw [hRm]; exact hs) rfl fun H1 cA e1 z1 o1 hAr hNm => ?_
  have h9 := zV_new (x := (t, N)) (H1 := H1) (lr := lr) (below := below) (e := e) kk hC hR hx hsz hS hA hn0 hL z1 o1 (by
    rw [show bs + (zn M + 1) = H.size by omega]
    rcases htt with ⟨rfl, rfl⟩ | ⟨rfl, rfl⟩ | ⟨-, h0⟩
    · rw [zE_int (zNew_k M (1, N)), zNew_i]
      have hcA : ca 0 = cA := Option.some.inj ((hK.2 0 _ rfl).2.symm.trans hNm)
      show H1[H.size]? = some (vp_cell _ _)
      rw [e1, vp_cell_i, hcA]
      rfl
    · rw [zE_bool (zNew_k M (2, N)), zNew_i]
      have hcA : ca 1 = cA := Option.some.inj ((hK.2 1 _ rfl).2.symm.trans hNm)
      show H1[H.size]? = some (vp_cell _ _)
      rw [e1, vp_cell_i, hcA]
      rfl
    · exact h0.elim)
  have h9' : W p l e R s m args below meth c H1 locs (u + 1) (us + N) (zFin F K n0 o D ca bs b below args s) (F0 m (pc + 2) lr (.ref (zad bs b (zn M + 1)) :: sk.map (ztr bs b))) := h9
  rw [hz] at h9'
  exact h9'
theorem z_anewarr {idx t N : Nat} {C : String} {n : Int32} (htt : (t = 4 ∧ C = RX0) ∨ (t = 5 ∧ C = RX2)) (hw : Cond.classLink (zKy K).cls idx C ∈ zG) (hn : ¬ n < 0) (hN : n.toNatClampNeg = N) (hN2 : N ≤ 1000) (ht : zt M = true) (hx : (zo M).2.1 = 0) (hc : u + 1 ≤ zKm K) (hs : us + N ≤ zKs K) (d : decode (zKc K) pc = .ok (.anewarray idx, 3))
    (kk : zV F E K n0 o (pc + 3) ls (.ref (zn M + 1) :: sk) (zNew M (t, N)) (u + 1) (us + N)) : zV F E K n0 o pc ls (.int n :: sk) M u us := by
  intro p l e R s m args below meth c D ca bs b H locs lr hC hR hS hA hn0 hL
  have hK := hC.2.2.2.2.2.2.2.2.2.1
  have hts := hC.2.2.2.2.1
  have hRm : R = zrm K := hC.2.2.2.2.2.2.1
  have hEv := hC.2.2.2.2.2.2.2.2.2.2.1
  have hsz := hR.2.1 ht
  have hz : zad bs b (zn M + 1) = H.size := by rw [zad_eq (by omega), hsz]; omega
  have hao : va_AO C s := by
    rcases htt with ⟨-, rfl⟩ | ⟨-, rfl⟩
    · exact hEv.2.2.2.2.2.2.1
    · exact hEv.2.2.2.2.2.2.2.1
  subst hN
  refine W.anew hC.1 hC.2.1 hC.2.2.2.1 (hts _ hw) (va_AO.use hao) rfl d rfl hn (by omega) (by rw [hRm]; exact hc) (by rw [hRm]; exact hs) fun cA kA comp f1 f2 f3 f4 => ?_
  generalize hH1 : H.push ({ cls := cA, slots := Array.replicate n.toNatClampNeg .null, vm := .none } : Cell) = H1
  have z1 : H1.size = H.size + 1 := by rw [← hH1, Array.size_push]
  have e1 : H1[H.size]? = some (arrV cA n.toNatClampNeg (fun _ => .null)) := by rw [← hH1, Array.getElem?_push_size, ← arrV_new]
  have o1 : ∀ q : Nat, q < H.size → H1[q]? = H[q]? := fun q hq => by rw [← hH1, Array.getElem?_push, if_neg (Nat.ne_of_lt hq)]
  have h9 := zV_new (x := (t, n.toNatClampNeg)) (H1 := H1) (lr := lr) (below := below) (e := e) kk hC hR hx hsz hS hA hn0 hL z1 o1 (by
    rw [show bs + (zn M + 1) = H.size by omega]
    rcases htt with ⟨rfl, rfl⟩ | ⟨rfl, rfl⟩
    · rw [zE_ref (Or.inl rfl) (zNew_k M (4, _)), zNew_r]
      obtain ⟨kA', comp', q1, q2, q3, q4⟩ := (hK.2 3 _ rfl).2
      have hcA : ca 3 = cA := Option.some.inj (q4.symm.trans f1)
      show H1[H.size]? = some (vp_cell _ _)
      rw [e1, vp_cell_q, hcA]
      rfl
    · rw [zE_ref (Or.inr rfl) (zNew_k M (5, _)), zNew_r]
      obtain ⟨kA', comp', q1, q2, q3, q4⟩ := (hK.2 4 _ rfl).2
      have hcA : ca 4 = cA := Option.some.inj (q4.symm.trans f1)
      show H1[H.size]? = some (vp_cell _ _)
      rw [e1, vp_cell_q, hcA]
      rfl)
  have h9' : W p l e R s m args below meth c H1 locs (u + 1) (us + n.toNatClampNeg) (zFin F K n0 o D ca bs b below args s) (F0 m (pc + 3) lr (.ref (zad bs b (zn M + 1)) :: sk.map (ztr bs b))) := h9
  rw [hz] at h9'
  exact h9'
theorem z_aast {n k t ci v : Nat} {i : Int32} (htt : (t = 4 ∧ ci = 0) ∨ (t = 5 ∧ ci = 2)) (hk : zAt M k (t, n)) (hv : zAt M v (0, ci)) (hin : vp_in i n) (d : decode (zKc K) pc = .ok (.aastore, 1))
    (kk : zV F E K n0 o (pc + 1) ls sk (zi M, zur (zr M) k i.toNatClampNeg v, M.2.2) u us) : zV F E K n0 o pc ls (.ref v :: .int i :: .ref k :: sk) M u us := by
  intro p l e R s m args below meth c D ca bs b H locs lr hC hR hS hA hn0 hL
  have hK := hC.2.2.2.2.2.2.2.2.2.1
  have ht : t = 4 ∨ t = 5 := htt.imp And.left And.left
  have he := zw_e (ca := ca) (bs := bs) hk (zE_ref ht hk.1)
  have hev := zw_e (ca := ca) (bs := bs) hv (zE_obj hv.1)
  have h0 : ¬ i < 0 := fun q => hin (Or.inl q)
  have hlt : i.toNatClampNeg < n := Nat.not_le.mp fun q => hin (Or.inr q)
  show W p l e R s m args below meth c H locs u us _ (F0 m pc lr (.ref (zad bs b v) :: .int i :: .ref (zad bs b k) :: sk.map (ztr bs b)))
  rw [zad_eq hk.2.1, zad_eq hv.2.1]
  obtain ⟨r', hr', cellV, g1, g2, g3, -⟩ := hR.1 (v - 1) _ hev
  have hcls := (hK.1 ci _ hr').2
  obtain ⟨kA, comp, k1, k2, k3⟩ : ∃ (kA : Class) (comp : ClassId), s.vm.classes[ca (t - 1)]? = some kA ∧ kA.kind = .array comp (.object r'.1) ∧ s.vm.findClass r'.1 = some comp := by
    rcases htt with ⟨rfl, rfl⟩ | ⟨rfl, rfl⟩
    · obtain ⟨kA, comp, a1, a2, a3, -⟩ := (hK.2 3 _ rfl).2
      cases hr'
      exact ⟨kA, comp, a1, a2, a3⟩
    · obtain ⟨kA, comp, a1, a2, a3, -⟩ := (hK.2 4 _ rfl).2
      cases hr'
      exact ⟨kA, comp, a1, a2, a3⟩
  have hcomp : comp = D.1 ci := Option.some.inj (k3.symm.trans hcls.1)
  subst hcomp
  obtain ⟨kC, hkC, -⟩ := hcls.2
  refine W.aast hC.1 hC.2.1 (hR.1 (k - 1) _ he) (fun q h => by cases h) (fun h => by cases h) k1 k2 rfl hkC ⟨h0, by show _ < (arrV _ _ _).slots.size; rw [arrV_size]; exact hlt⟩ g1 (fun q h => by rw [g3] at h; cases h) (by rw [g2]; exact hkC) (by rw [g2]; exact va_assign hcls) rfl rfl d fun H1 e1 e2 e3 => ?_
  refine zV_next (M := M) (k := k) kk hC hR hA hn0 hL hk.2.1 hk.2.2 rfl rfl rfl (fun a ha => zE_eq rfl (zur_ne _ _ _ ha) rfl rfl) ?_ e2 (hS.put e2 e3 (hA _ (by have := hk.2.1; omega) (by have := hk.2.2; omega)))
  refine hR.1.set (zw_D hR.2.2.2) he ?_ e3
  rw [zE_ref (M := (zi M, zur (zr M) k i.toNatClampNeg v, M.2.2)) ht hk.1]
  show H1[bs + k]? = some (vp_cell _ _)
  rw [e1, vp_cell_q, vp_cell_q, arrV_store]
  congr 2
  funext q
  have hv0 : v ≠ 0 := by have := hv.2.1; omega
  by_cases hq : q = i.toNatClampNeg
  · subst hq
    simp [updV, zq, zur, va_rf, zr, hv0]
  · simp [updV, zq, zur, va_rf, zr, hq]
theorem z_objInit {idx k : Nat} (hw : Cond.methodLink (zKy K).cls idx objectInit ∈ zG) (hw2 : Cond.instanceMethod objectInit ∈ zG) (hw3 : Cond.code objectInit ⟨#[0xb1]⟩ 1 none ∈ zG) (hf : 1 ≤ zKf K) (ho : (sk.map fun v => v.category).sum + 12 ≤ zKo K) (d : decode (zKc K) pc = .ok (.invokespecial idx, 3))
    (kk : zV F E K n0 o (pc + 3) ls sk M u us) : zV F E K n0 o pc ls (.ref k :: sk) M u us := by
  refine zgo (fun p l e R s m args below meth c D ca bs b H locs lr Q hC hR hL k9 => ?_) kk
  have hts := hC.2.2.2.2.1
  have hRm : R = zrm K := hC.2.2.2.2.2.2.1
  refine W.objInit hC.1 hC.2.1 hC.2.2.2.1 (hts _ hw) (hts _ hw2) (hts _ hw3) rfl (by rw [hC.2.2.1]; exact hL.1) rfl d (by rw [hRm]; exact hf) ?_ k9
  rw [hRm]
  show 2 * 0 + ((sk.map (ztr bs b)).map fun v => v.category).sum + 12 ≤ zKo K
  rw [List.map_map]
  have : ((fun v : Value => v.category) ∘ ztr bs b) = fun v => v.category := by funext v; exact ztr_cat
  rw [this]
  omega
end ZA
def zJn (J : Nat → Nat) (m j : Nat) : Nat → Nat := fun a => if a = m then j else J a
def zVn (ν : Nat → Nat → Int32) (m : Nat) : Nat → Nat → Int32 := fun a => if a = m then fun _ => 0 else ν a
theorem zJn_s {J : Nat → Nat} {m j : Nat} : zJn J m j m = j := if_pos rfl
theorem zJn_o {J : Nat → Nat} {m j a : Nat} (h : a ≠ m) : zJn J m j a = J a := if_neg h
theorem zVn_s {ν : Nat → Nat → Int32} {m : Nat} : zVn ν m m = fun _ => 0 := if_pos rfl
theorem zVn_o {ν : Nat → Nat → Int32} {m a : Nat} (h : a ≠ m) : zVn ν m a = ν a := if_neg h
theorem zx_new {ca : Nat → ClassId} {bs j : Nat} {J : Nat → Nat} {m : Nat} {ν : Nat → Nat → Int32} {M : zM} (hx : zo M = (J, m, ν)) : zw ca bs (zi M, zr M, zk M, zn M, false, (zJn J m j, m + 1, zVn ν m)) = zw ca bs M ++ [(bs + j, .inl (ca 0, zlen m, .inl (fun _ => 0)))] := by
  obtain ⟨μ, ρ, κ, n, t, g⟩ := M
  have hx : g = (J, m, ν) := hx
  subst hx
  unfold zw
  rw [List.append_assoc]
  congr 1
  show List.map (fun a => (bs + zJn J m j a, Sum.inl (ca 0, zlen a, Sum.inl (zVn ν m a)))) (List.range (m + 1)) = List.map (fun a => (bs + J a, Sum.inl (ca 0, zlen a, Sum.inl (ν a)))) (List.range m) ++ _
  rw [List.range_succ, List.map_append, List.map_singleton, zJn_s, zVn_s]
  congr 1
  apply List.map_congr_left
  intro a ha
  have := List.mem_range.mp ha
  rw [zJn_o (by omega), zVn_o (by omega)]
/-- a new array of the law's own, wherever it comes to lie -/
theorem z_xnew {F : Bool} {E : Nat × (Nat → Int32)} {K : zK} {n0 : Nat} {o : zO} {pc : Nat} {ls sk : List Value} {M : zM} {u us : Nat} {J : Nat → Nat} {m : Nat} {ν : Nat → Nat → Int32} {n : Int32} (hx : zo M = (J, m, ν)) (hw : Cond.arrayClass .int ∈ zG) (hn : ¬ n < 0) (hN : n.toNatClampNeg = zlen m) (hN2 : zlen m ≤ 1000) (hc : u + 1 ≤ zKm K) (hs : us + zlen m ≤ zKs K) (d : decode (zKc K) pc = .ok (.newarray .int, 2))
    (kk : ∀ j, zV F E K n0 o (pc + 2) ls (.ref (zJn J m j m) :: sk) (zi M, zr M, zk M, zn M, false, (zJn J m j, m + 1, zVn ν m)) (u + 1) (us + zlen m)) : zV F E K n0 o pc ls (.int n :: sk) M u us := by
  intro p l e R s m' args below meth c D ca bs b H locs lr hC hR hS hA hn0 hL
  have hK := hC.2.2.2.2.2.2.2.2.2.1
  have hts := hC.2.2.2.2.1
  have hRm : R = zrm K := hC.2.2.2.2.2.2.1
  obtain ⟨R1, R2, R3, R4, R5⟩ := id hR
  have hb : zlen m * componentBytes (newarray.typeOf .int) ≤ 536870912 := by
    show zlen m * 4 ≤ _; omega
  refine va_newaK (atype := .int) hC.1 hC.2.1 (hts _ hw) rfl d rfl hn hN hb (by rw [hRm]; exact hc) (by rw [hRm]; exact hs) rfl fun H1 cA e1 z1 o1 hAr hNm => ?_
  have hcA : ca 0 = cA := Option.some.inj ((hK.2 0 _ rfl).2.symm.trans hNm)
  have hz : s.heap.size ≤ H.size := hS.1
  have hj : bs + (H.size - bs) = H.size := by omega
  rw [hx] at R4 R5
  have k9 := kk (H.size - bs) p l e R s m' args below meth c D ca bs b H1 locs lr hC ⟨?_, fun h => (by cases h), by rw [z1]; exact Nat.lt_succ_of_lt R3, fun a ha => ?_, fun a a' h1 h2 => ?_⟩ ⟨by omega, fun q h1 h2 => (o1 q (by omega)).trans (hS.2.1 q h1 h2), hS.2.2⟩ hA hn0 hL
  · have h9 : W p l e R s m' args below meth c H1 locs (u + 1) (us + zlen m) (zFin F K n0 o D ca bs b below args s) (F0 m' (pc + 2) lr (.ref (zad bs b (zJn J m (H.size - bs) m)) :: sk.map (ztr bs b))) := k9
    rw [zJn_s, zad_eq (by omega), hj] at h9
    exact h9
  · rw [zx_new hx]
    refine (hR.1.kept fun k q hq => ?_).app (fun k q hq => ?_)
    · exact o1 _ (hR.1 k q hq).lt
    · have hk : k < 1 := (List.getElem?_eq_some_iff.mp hq).1
      rw [show k = 0 by omega] at hq
      cases hq
      show H1[bs + (H.size - bs)]? = some (vp_cell _ _)
      rw [hj, e1, vp_cell_i, hcA]
      rfl
  · have ha : a < m + 1 := ha
    show zn M < zJn J m (H.size - bs) a ∧ bs + zJn J m (H.size - bs) a < H1.size
    by_cases h : a = m
    · rw [h, zJn_s]; omega
    · rw [zJn_o h]
      have h7 := R4 a (by show a < m; omega)
      have h8 : zn M < J a ∧ bs + J a < H.size := h7
      omega
  · have h2 : a' < m + 1 := h2
    show zJn J m (H.size - bs) a < zJn J m (H.size - bs) a'
    rw [zJn_o (show a ≠ m by omega)]
    by_cases h : a' = m
    · rw [h, zJn_s]
      have h8 : zn M < J a ∧ bs + J a < H.size := R4 a (by show a < m; omega)
      omega
    · rw [zJn_o h]
      exact R5 a a' h1 (by show a' < m; omega)
/-- the last of the law's arrays is forgotten -/
theorem z_xdrop {F : Bool} {E : Nat × (Nat → Int32)} {K : zK} {n0 : Nat} {o : zO} {pc : Nat} {ls sk : List Value} {M : zM} {u us : Nat} {J J' : Nat → Nat} {m m' : Nat} {ν ν' : Nat → Nat → Int32} (hx : zo M = (J, m, ν)) (hm : m' ≤ m) (hJ : ∀ a, a < m' → J' a = J a) (hν : ∀ a, a < m' → ν' a = ν a)
    (kk : zV F E K n0 o pc ls sk (zi M, zr M, zk M, zn M, zt M, (J', m', ν')) u us) : zV F E K n0 o pc ls sk M u us := by
  intro p l e R s m9 args below meth c D ca bs b H locs lr hC hR hS hA hn0 hL
  obtain ⟨R1, R2, R3, R4, R5⟩ := id hR
  rw [hx] at R4 R5
  refine kk p l e R s m9 args below meth c D ca bs b H locs lr hC ⟨fun k q hq => ?_, R2, R3, fun a ha => ?_, fun a a' h1 h2 => ?_⟩ hS hA hn0 hL
  · rcases zw_of hq with ⟨h1, rfl⟩ | ⟨a, h1, rfl, rfl⟩
    · exact R1 k _ (zw_at (ca := ca) (bs := bs) (M := M) (k := k + 1) (by omega) h1)
    · have h1 : a < m' := h1
      have h2 := zw_x (ca := ca) (bs := bs) (M := M) (a := a) (by rw [hx]; show a < m; omega)
      rw [hx] at h2
      have h3 := R1 _ _ h2
      show va_at D vwCl (bs + J' a, .inl (ca 0, zlen a, .inl (ν' a))) H
      rw [hJ a h1, hν a h1]
      exact h3
  · have ha : a < m' := ha
    show zn M < J' a ∧ bs + J' a < H.size
    rw [hJ a ha]
    exact R4 a (by show a < m; omega)
  · have h2 : a' < m' := h2
    show J' a < J' a'
    rw [hJ a (by omega), hJ a' h2]
    exact R5 a a' h1 (by show a' < m; omega)
