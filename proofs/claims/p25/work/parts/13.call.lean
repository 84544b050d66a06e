/-! ends, calls, throws, catches -/
def zFz (M : zM) : zM := (zi M, zr M, zk M, zn M, false, zo M)
/-- a method's own words lie in the tables -/
def zOk (K : zK) (n : Nat) : Prop := zcw K ∈ zG ∧ Cond.initialized (zKy K).cls ∈ zG ∧ (zKy K).cls ≠ "java/lang/invoke/MethodHandle" ∧ (zKy K).cls ≠ "java/lang/invoke/VarHandle" ∧ (parseMethodDescriptor (zKy K).desc).map (fun d => d.parameters.length) = some n ∧ plainName (zKy K).cls = true
def zLV (own : String) (idx : Nat) (y : MethodName) : Prop := Cond.methodLink own idx y ∈ zG ∧ Cond.instanceMethod y ∈ zG ∧ Cond.selects y.cls y y ∈ zG
def zLS (own : String) (idx : Nat) (y : MethodName) : Prop := Cond.methodLink own idx y ∈ zG ∧ Cond.static y ∈ zG
def zLSN (own : String) (idx : Nat) (y : MethodName) : Prop := (∃ host, (own, idx, y, host) ∈ zNests) ∧ Cond.static y ∈ zG
def zLI (own : String) (idx : Nat) (y : MethodName) : Prop := Cond.methodLink own idx y ∈ zG ∧ Cond.instanceMethod y ∈ zG ∧ y.name = "<init>"
def zLIN (own : String) (idx : Nat) (y : MethodName) : Prop := (∃ host, (own, idx, y, host) ∈ zNests) ∧ Cond.instanceMethod y ∈ zG ∧ y.name = "<init>"
theorem zws_good {K : zK} {n : Nat} (h : zOk K n) : ∀ w ∈ zws K, w ∈ zG := fun w hw => (List.mem_cons.mp hw).elim (fun e => e ▸ h.1) id
theorem zG_pay {s : State} {args : Array Value} (hts : ∀ w ∈ zG, w.before args s = true) {ws : List Cond} (hw : ∀ w ∈ ws, w ∈ zG) : ∀ w ∈ ws, ∀ (a' : Array Value) (U : State), s.WarmedH U.vm → w.before a' U = true :=
  pay_in hts fun w h => ⟨hw w h, good_of_word (zG_good (hw w h))⟩
theorem zn_len {y : MethodName} {n : Nat} (h : (parseMethodDescriptor y.desc).map (fun d => d.parameters.length) = some n) : ∀ sig, parseMethodDescriptor y.desc = some sig → n = sig.parameters.length := by
  intro sig h2
  rw [h2] at h
  exact (Option.some.inj h).symm
theorem zcw_plain {K : zK} (h : zKh K = []) : zcw K = .code (zKy K) (zKc K) (zKl K) (zKr K) := by rw [zcw, h]
theorem zcw_with {K : zK} {x : Nat × Nat × Nat × Nat} {t : List (Nat × Nat × Nat × Nat)} (h : zKh K = x :: t) : zcw K = .codeWith (zKy K) (zKc K) (zKl K) (zKr K) (zKh K) := by rw [zcw, h]
theorem zPre_blind {E : Nat × (Nat → Int32)} {D : va_G} {ca : Nat → ClassId} {bs b sz : Nat} {M : zM} {as : List Value} : FrameBlind (va_Pc as (zPre E D ca bs b M sz)) := by
  intro a U g mk h
  obtain ⟨h1, h2, h3, h4, h5, h6⟩ := h
  exact ⟨h1, h2, h3, va_K.moved (u := U) (U := U.calling g mk a) (Vm.Alike.refl U.vm) h4, zEv.same (u := U) (U := U.calling g mk a) rfl h5, h6⟩
section ZC
variable {F : Bool} {E : Nat × (Nat → Int32)} {K K9 : zK} {n0 : Nat} {o : zO} {pc : Nat} {ls sk : List Value} {M M' : zM} {u us : Nat}
section ZC1
variable {p : Program} {l : Launch} {e : Env} {R : Room} {s : State} {m : MethodId} {args : Array Value} {below : List Frame} {meth : Method} {c : Code} {D : va_G} {ca : Nat → ClassId} {bs b : Nat} {H : Heap} {locs : List Loc} {lr : Array Slot}
theorem zA_b (hC : zC E K p l R s m args meth c D ca bs b n0) : ¬ zA bs n0 s.heap.size b := by
  have h1 := hC.2.2.2.2.2.2.2.2.2.2.2.2.1
  have h2 := hC.2.2.2.2.2.2.2.2.2.2.1.2.2.2.2.2.1
  intro h
  rcases h with h | h
  · omega
  · omega
theorem zA_sub (hS : va_S (zA bs n0 s.heap.size) s.heap H locs) (hA : ∀ q, bs < q → q ≤ bs + zn M → zA bs n0 s.heap.size q) : ∀ q, zA bs (zn M) H.size q → zA bs n0 s.heap.size q := by
  intro q h
  rcases h with h | h
  · exact hA q h.1 h.2
  · exact Or.inr (Nat.le_trans hS.1 h)
theorem zPre_of (hC : zC E K p l R s m args meth c D ca bs b n0) (hR : zR D ca bs M H) (hS : va_S (zA bs n0 s.heap.size) s.heap H locs) (hA : ∀ q, bs < q → q ≤ bs + zn M → zA bs n0 s.heap.size q) :
    ∀ U : State, U.heap = H → s.WarmedH U.vm → zPre E D ca bs b M H.size U := by
  intro U hU hW
  have hEv := hC.2.2.2.2.2.2.2.2.2.2.1
  have h1 : zEv b E.1 E.2 (zA bs (zn M) H.size) s H := hEv.kept hS.1 hS.2.1 (zA_b hC) (zA_sub hS hA)
  exact ⟨by rw [hU], by rw [hU]; exact hR, va_K.moved hW.alike hC.2.2.2.2.2.2.2.2.2.1, by rw [hU]; exact h1.moved hW, hC.2.2.2.2.2.2.2.2.2.2.2.2.1⟩
/-- behind a call that returned -/
theorem zV_back {st0 : List Value} {a : Array Value} {v : Option Value} (hr : vx_Run p l e R s m args below meth c H locs u us (zKm K9) (zKs K9) (F0 m pc lr st0) (sk.map (ztr bs b)) (zQc D ca bs b (zA bs (zn M) H.size) (.inl v, M') a) (zXc D ca bs (zA bs (zn M) H.size) (.inl v, M')) (zA bs (zn M) H.size))
    (kk : zV F E K n0 o (pc + 3) ls (v.toList ++ sk) M' (u + zKm K9) (us + zKs K9)) (hC : zC E K p l R s m args meth c D ca bs b n0) (hR : zR D ca bs M H) (hS : va_S (zA bs n0 s.heap.size) s.heap H locs) (hA : ∀ q, bs < q → q ≤ bs + zn M → zA bs n0 s.heap.size q) (hn0 : n0 ≤ zn M) (hL : zL bs b ls lr (zKl K)) (hMM : zn M ≤ zn M' ∧ (zn M < zn M' → zt M = true)) :
    W p l e R s m args below meth c H locs u us (zFin F K n0 o D ca bs b below args s) (F0 m pc lr st0) := by
  intro T hT X
  rcases hr T hT X with ⟨v', st₀, t, T', L, h0, X', hL9, e1, e2, ⟨w, hw, hv, hR', hF⟩, st⟩ | ⟨q, st₀, t, T', L, Ex, ce, h0, X', hL9, e1, e2, ⟨hw, -, -⟩, -⟩
  · cases hw
    obtain rfl : v' = v.map (ztr bs b) := Outcome.returned.inj hv
    obtain ⟨k1, k2, k3⟩ := vx_keep h0 e1 hS (fun q _ h => zA_sub hS hA q h) (zA_sub hS hA) hL9 hF
    have h9 := kk p l e R s m args below meth c D ca bs b T'.heap (locs ++ L) lr hC (by rw [e1]; exact hR') k3 (fun q h1 h2 => ?_) (Nat.le_trans hn0 hMM.1) hL
    · obtain ⟨t2, a1, b1⟩ := h9 T' rfl X'
      refine ⟨t2, st t2 ?_, b1⟩
      rw [List.map_append] at a1
      have : v.toList.map (ztr bs b) = (v.map (ztr bs b)).toList := by cases v <;> rfl
      rw [this] at a1
      exact a1
    · by_cases hq : q ≤ bs + zn M
      · exact hA q h1 hq
      · right
        have h3 := hR.2.1 (hMM.2 (by omega))
        have h4 := hS.1
        omega
  · cases hw
end ZC1
/-- an exception Ex lies over the frame -/
def zX (F : Bool) (E : Nat × (Nat → Int32)) (K : zK) (n0 : Nat) (o : zO) (pc : Nat) (ls : List Value) (M : zM) (u us : Nat) (Ex : String) : Prop :=
  ∀ (p : Program) (l : Launch) (e : Env) (R : Room) (s : State) (m : MethodId) (args : Array Value) (below : List Frame) (meth : Method) (c : Code) (D : va_G) (ca : Nat → ClassId) (bs b : Nat) (H : Heap) (locs : List Loc) (lr : Array Slot) (rest : List Value) (q : Addr) (ce : Cell),
    zC E K p l R s m args meth c D ca bs b n0 → zR D ca bs M H → va_S (zA bs n0 s.heap.size) s.heap H locs → (∀ q, bs < q → q ≤ bs + zn M → zA bs n0 s.heap.size q) → n0 ≤ zn M → zL bs b ls lr (zKl K) → H[q]? = some ce → ce.vm = .none → s.vm.findClass Ex = some ce.cls →
    vx_W p l e R s m args below meth c H locs u us (zFin F K n0 o D ca bs b below args s) (F0 m pc lr rest) q
section ZC2
variable {p : Program} {l : Launch} {e : Env} {R : Room} {s : State} {m : MethodId} {args : Array Value} {below : List Frame} {meth : Method} {c : Code} {D : va_G} {ca : Nat → ClassId} {bs b : Nat} {H : Heap} {locs : List Loc} {lr : Array Slot}
/-- behind a call that threw -/
theorem zV_thrown {st0 : List Value} {a : Array Value} {Ex : String} (hr : vx_Run p l e R s m args below meth c H locs u us (zKm K9) (zKs K9) (F0 m pc lr st0) (sk.map (ztr bs b)) (zQc D ca bs b (zA bs (zn M) H.size) (.inr Ex, M') a) (zXc D ca bs (zA bs (zn M) H.size) (.inr Ex, M')) (zA bs (zn M) H.size))
    (kk : zX F E K n0 o pc ls M' (u + zKm K9) (us + zKs K9) Ex) (hC : zC E K p l R s m args meth c D ca bs b n0) (hR : zR D ca bs M H) (hS : va_S (zA bs n0 s.heap.size) s.heap H locs) (hA : ∀ q, bs < q → q ≤ bs + zn M → zA bs n0 s.heap.size q) (hn0 : n0 ≤ zn M) (hL : zL bs b ls lr (zKl K)) (hMM : zn M ≤ zn M' ∧ (zn M < zn M' → zt M = true)) :
    W p l e R s m args below meth c H locs u us (zFin F K n0 o D ca bs b below args s) (F0 m pc lr st0) := by
  intro T hT X
  rcases hr T hT X with ⟨v', st₀, t, T', L, h0, X', hL9, e1, e2, ⟨w, hw, -, -, -⟩, -⟩ | ⟨q, st₀, t, T', L, Ex', ce, h0, X', hL9, e1, e2, ⟨hw, hR', hF⟩, hce, hcv, hcl, st⟩
  · cases hw
  · cases hw
    obtain ⟨k1, k2, k3⟩ := vx_keep h0 e1 hS (fun q _ h => zA_sub hS hA q h) (zA_sub hS hA) hL9 hF
    have h9 := kk p l e R s m args below meth c D ca bs b T'.heap (locs ++ L) lr (sk.map (ztr bs b)) q ce hC (by rw [e1]; exact hR') k3 (fun q h1 h2 => ?_) (Nat.le_trans hn0 hMM.1) hL (by rw [e1]; exact hce) hcv hcl
    · obtain ⟨t2, a1, b1⟩ := h9 T' rfl X'
      exact ⟨t2, st.trans a1, b1⟩
    · by_cases hq : q ≤ bs + zn M
      · exact hA q h1 hq
      · right
        have h3 := hR.2.1 (hMM.2 (by omega))
        have h4 := hS.1
        omega
theorem zFix (hC : zC E K p l R s m args meth c D ca bs b n0) : CallFix p m c (zKc K) (zKl K) s args zG (zKy K).cls := ⟨hC.1, hC.2.1, hC.2.2.1, hC.2.2.2.1, hC.2.2.2.2.1⟩
theorem zcat_map {sk : List Value} (h : (sk.map fun v => v.category).sum ≤ 8) : 2 * (F0 m pc lr (sk.map (ztr bs b))).monitorRoom + ((sk.map (ztr bs b)).map fun v => v.category).sum ≤ 8 := by
  show 2 * 0 + _ ≤ 8
  rw [List.map_map]
  have : ((fun v : Value => v.category) ∘ ztr bs b) = fun v => v.category := by funext v; exact ztr_cat
  rw [this]
  omega
/-- what a call of K9 needs of the caller's room -/
def zFit (K K9 : zK) (u us : Nat) : Prop := zKf K9 + 1 ≤ zKf K ∧ 8 + (zKl K9 + 11) + zKo K9 ≤ zKo K ∧ u + zKm K9 ≤ zKm K ∧ us + zKs K9 ≤ zKs K
theorem zCallB {n idx : Nat} (hC : zC E K p l R s m args meth c D ca bs b n0) (hok : zOk K9 n) (hh : zKh K9 = []) (hf : zFit K K9 u us) (hl : Cond.methodLink (zKy K).cls idx (zKy K9) ∈ zG) : CallB R s args (zKy K).cls idx (zKy K9) (zKc K9) (zKl K9) (zKr K9) (zws K9) (zrm K9) (zKm K9) (zKs K9) n := by
  have hts := hC.2.2.2.2.1
  have hRm : R = zrm K := hC.2.2.2.2.2.2.1
  have hc := zcw_plain hh
  refine ⟨rfl, rfl, by rw [hRm]; exact hf.1, by rw [hRm]; exact hf.2.1, zG_pay hts (zws_good hok), by rw [zws, hc]; exact List.mem_cons_self, by rw [← hc]; exact hts _ hok.1, hts _ hok.2.1, ⟨hok.2.2.1, hok.2.2.2.1⟩, zn_len hok.2.2.2.2.1, hts _ hl⟩
theorem zCallN {n idx : Nat} {host : String} (hC : zC E K p l R s m args meth c D ca bs b n0) (hok : zOk K9 n) (hh : zKh K9 = []) (hf : zFit K K9 u us) (hl : ((zKy K).cls, idx, zKy K9, host) ∈ zNests) : va_CN R s args (zKy K).cls idx (zKy K9) host (zKc K9) (zKl K9) (zKr K9) (zws K9) (zrm K9) (zKm K9) (zKs K9) n := by
  have hts := hC.2.2.2.2.1
  have hRm : R = zrm K := hC.2.2.2.2.2.2.1
  have hc := zcw_plain hh
  have hEv := hC.2.2.2.2.2.2.2.2.2.2.1
  exact ⟨⟨rfl, rfl, by rw [hRm]; exact hf.1, by rw [hRm]; exact hf.2.1, zG_pay hts (zws_good hok), by rw [zws, hc]; exact List.mem_cons_self⟩, by rw [← hc]; exact hts _ hok.1, hts _ hok.2.1, ⟨hok.2.2.1, hok.2.2.2.1⟩, zn_len hok.2.2.2.2.1, va_Nw.use rfl (hEv.2.2.2.2.2.2.2.2.2.1 _ hl)⟩
theorem zCallX {n idx : Nat} {x : Nat × Nat × Nat × Nat} {t : List (Nat × Nat × Nat × Nat)} (hC : zC E K p l R s m args meth c D ca bs b n0) (hok : zOk K9 n) (hh : zKh K9 = x :: t) (hf : zFit K K9 u us) (hl : zLS (zKy K).cls idx (zKy K9)) : vx_CSW R s args (zKy K).cls idx (zKy K9) (zKc K9) (zKl K9) (zKr K9) (zKh K9) (zws K9) (zrm K9) (zKm K9) (zKs K9) n := by
  have hts := hC.2.2.2.2.1
  have hRm : R = zrm K := hC.2.2.2.2.2.2.1
  have hc := zcw_with hh
  exact ⟨⟨rfl, rfl, by rw [hRm]; exact hf.1, by rw [hRm]; exact hf.2.1, zG_pay hts (zws_good hok), by rw [zws, hc]; exact List.mem_cons_self⟩, by rw [← hc]; exact hts _ hok.1, hts _ hok.2.1, ⟨hok.2.2.1, hok.2.2.2.1⟩, zn_len hok.2.2.2.2.1, hts _ hl.1, hts _ hl.2⟩
end ZC2
theorem z_callV {k ci : Nat} {as : List Value} {v : Option Value} {n idx : Nat} {st : List Value} (h9 : zCt E K9 (.ref k :: as) M (.inl v, M')) (hok : zOk K9 n) (hl : zLV (zKy K).cls idx (zKy K9)) (hh : zKh K9 = []) (hk : zAt M k (0, ci)) (hci : (vwCl[ci]?).map (fun q => q.1) = some (zKy K9).cls) (hn : as.length = n) (hf : zFit K K9 u us) (hsk : (sk.map fun v => v.category).sum ≤ 8) (hst : st = as.reverse ++ .ref k :: sk) (d : decode (zKc K) pc = .ok (.invokevirtual idx, 3))
    (kk : zV F E K n0 o (pc + 3) ls (v.toList ++ sk) M' (u + zKm K9) (us + zKs K9)) : zV F E K n0 o pc ls st M u us := by
  intro p l e R s m args below meth c D ca bs b H locs lr hC hR hS hA hn0 hL
  have hRm : R = zrm K := hC.2.2.2.2.2.2.1
  have hts := hC.2.2.2.2.1
  have hM := h9.2 l D ca bs b H.size hC.2.2.2.2.2.2.2.2.2.2.2.1
  have hp := zPre_of (M := M) hC hR hS hA
  obtain ⟨q9, hq9⟩ : ∃ q9, vwCl[ci]? = some q9 := by
    cases h : vwCl[ci]? with
    | none => rw [h] at hci; cases hci
    | some q9 => exact ⟨q9, rfl⟩
  have hq1 : q9.1 = (zKy K9).cls := by rw [hq9] at hci; exact Option.some.inj hci
  have hrecv := va_recv hC.2.2.2.2.2.2.2.2.2.1 hR.1 hq9 (zw_e hk (zE_obj hk.1))
  rw [hq1] at hrecv
  have hz := zad_eq (bs := bs) (b := b) hk.2.1
  have hstR : st.map (ztr bs b) = (as.map (ztr bs b)).reverse ++ .ref (bs + k) :: sk.map (ztr bs b) := by rw [hst, List.map_append, List.map_reverse, List.map_cons, ← hz]; rfl
  have hpc : ((Value.ref k :: as).map (ztr bs b)) = .ref (bs + k) :: as.map (ztr bs b) := by rw [List.map_cons, ← hz]; rfl
  rw [hpc] at hM
  exact zV_back (sk := sk) (vx_runV (zFix hC) hM ⟨zCallB hC hok hh hf hl.1, hts _ hl.2.1, hts _ hl.2.2⟩ ⟨zPre_blind, hrecv, fun U h1 h2 => ⟨rfl, hp U h1 h2⟩⟩ rfl (by rw [List.length_map]; exact hn) hL.1 hstR (zcat_map (m := m) (pc := pc) (lr := lr) hsk) d ⟨by rw [hRm]; exact hf.2.2.1, by rw [hRm]; exact hf.2.2.2⟩) kk hC hR hS hA hn0 hL h9.1
theorem z_callVx {k ci : Nat} {as : List Value} {Ex : String} {n idx : Nat} {st : List Value} (h9 : zCt E K9 (.ref k :: as) M (.inr Ex, M')) (hok : zOk K9 n) (hl : zLV (zKy K).cls idx (zKy K9)) (hh : zKh K9 = []) (hk : zAt M k (0, ci)) (hci : (vwCl[ci]?).map (fun q => q.1) = some (zKy K9).cls) (hn : as.length = n) (hf : zFit K K9 u us) (hsk : (sk.map fun v => v.category).sum ≤ 8) (hst : st = as.reverse ++ .ref k :: sk) (d : decode (zKc K) pc = .ok (.invokevirtual idx, 3))
    (kk : zX F E K n0 o pc ls M' (u + zKm K9) (us + zKs K9) Ex) : zV F E K n0 o pc ls st M u us := by
  intro p l e R s m args below meth c D ca bs b H locs lr hC hR hS hA hn0 hL
  have hRm : R = zrm K := hC.2.2.2.2.2.2.1
  have hts := hC.2.2.2.2.1
  have hM := h9.2 l D ca bs b H.size hC.2.2.2.2.2.2.2.2.2.2.2.1
  have hp := zPre_of (M := M) hC hR hS hA
  obtain ⟨q9, hq9⟩ : ∃ q9, vwCl[ci]? = some q9 := by
    cases h : vwCl[ci]? with
    | none => rw [h] at hci; cases hci
    | some q9 => exact ⟨q9, rfl⟩
  have hq1 : q9.1 = (zKy K9).cls := by rw [hq9] at hci; exact Option.some.inj hci
  have hrecv := va_recv hC.2.2.2.2.2.2.2.2.2.1 hR.1 hq9 (zw_e hk (zE_obj hk.1))
  rw [hq1] at hrecv
  have hz := zad_eq (bs := bs) (b := b) hk.2.1
  have hstR : st.map (ztr bs b) = (as.map (ztr bs b)).reverse ++ .ref (bs + k) :: sk.map (ztr bs b) := by rw [hst, List.map_append, List.map_reverse, List.map_cons, ← hz]; rfl
  have hpc : ((Value.ref k :: as).map (ztr bs b)) = .ref (bs + k) :: as.map (ztr bs b) := by rw [List.map_cons, ← hz]; rfl
  rw [hpc] at hM
  exact zV_thrown (sk := sk) (vx_runV (zFix hC) hM ⟨zCallB hC hok hh hf hl.1, hts _ hl.2.1, hts _ hl.2.2⟩ ⟨zPre_blind, hrecv, fun U h1 h2 => ⟨rfl, hp U h1 h2⟩⟩ rfl (by rw [List.length_map]; exact hn) hL.1 hstR (zcat_map (m := m) (pc := pc) (lr := lr) hsk) d ⟨by rw [hRm]; exact hf.2.2.1, by rw [hRm]; exact hf.2.2.2⟩) kk hC hR hS hA hn0 hL h9.1
theorem z_callS {as : List Value} {v : Option Value} {n idx : Nat} {st : List Value} (h9 : zCt E K9 as M (.inl v, M')) (hok : zOk K9 n) (hl : zLS (zKy K).cls idx (zKy K9)) (hh : zKh K9 = []) (hn : as.length = n) (hf : zFit K K9 u us) (hsk : (sk.map fun v => v.category).sum ≤ 8) (hst : st = as.reverse ++ sk) (d : decode (zKc K) pc = .ok (.invokestatic idx, 3))
    (kk : zV F E K n0 o (pc + 3) ls (v.toList ++ sk) M' (u + zKm K9) (us + zKs K9)) : zV F E K n0 o pc ls st M u us := by
  intro p l e R s m args below meth c D ca bs b H locs lr hC hR hS hA hn0 hL
  have hRm : R = zrm K := hC.2.2.2.2.2.2.1
  have hts := hC.2.2.2.2.1
  have hM := h9.2 l D ca bs b H.size hC.2.2.2.2.2.2.2.2.2.2.2.1
  have hp := zPre_of (M := M) hC hR hS hA
  have hstR : st.map (ztr bs b) = (as.map (ztr bs b)).reverse ++ sk.map (ztr bs b) := by rw [hst, List.map_append, List.map_reverse]
  exact zV_back (sk := sk) (vx_runS (zFix hC) hM ⟨zCallB hC hok hh hf hl.1, hts _ hl.2⟩ ⟨zPre_blind, fun U h1 h2 => ⟨rfl, hp U h1 h2⟩⟩ rfl (by rw [List.length_map]; exact hn) hL.1 hstR (zcat_map (m := m) (pc := pc) (lr := lr) hsk) d ⟨by rw [hRm]; exact hf.2.2.1, by rw [hRm]; exact hf.2.2.2⟩) kk hC hR hS hA hn0 hL h9.1
theorem z_callSx {as : List Value} {Ex : String} {n idx : Nat} {st : List Value} (h9 : zCt E K9 as M (.inr Ex, M')) (hok : zOk K9 n) (hl : zLS (zKy K).cls idx (zKy K9)) (hh : zKh K9 = []) (hn : as.length = n) (hf : zFit K K9 u us) (hsk : (sk.map fun v => v.category).sum ≤ 8) (hst : st = as.reverse ++ sk) (d : decode (zKc K) pc = .ok (.invokestatic idx, 3))
    (kk : zX F E K n0 o pc ls M' (u + zKm K9) (us + zKs K9) Ex) : zV F E K n0 o pc ls st M u us := by
  intro p l e R s m args below meth c D ca bs b H locs lr hC hR hS hA hn0 hL
  have hRm : R = zrm K := hC.2.2.2.2.2.2.1
  have hts := hC.2.2.2.2.1
  have hM := h9.2 l D ca bs b H.size hC.2.2.2.2.2.2.2.2.2.2.2.1
  have hp := zPre_of (M := M) hC hR hS hA
  have hstR : st.map (ztr bs b) = (as.map (ztr bs b)).reverse ++ sk.map (ztr bs b) := by rw [hst, List.map_append, List.map_reverse]
  exact zV_thrown (sk := sk) (vx_runS (zFix hC) hM ⟨zCallB hC hok hh hf hl.1, hts _ hl.2⟩ ⟨zPre_blind, fun U h1 h2 => ⟨rfl, hp U h1 h2⟩⟩ rfl (by rw [List.length_map]; exact hn) hL.1 hstR (zcat_map (m := m) (pc := pc) (lr := lr) hsk) d ⟨by rw [hRm]; exact hf.2.2.1, by rw [hRm]; exact hf.2.2.2⟩) kk hC hR hS hA hn0 hL h9.1
theorem z_callSN {as : List Value} {v : Option Value} {n idx : Nat} {st : List Value} (h9 : zCt E K9 as M (.inl v, M')) (hok : zOk K9 n) (hl : zLSN (zKy K).cls idx (zKy K9)) (hh : zKh K9 = []) (hn : as.length = n) (hf : zFit K K9 u us) (hsk : (sk.map fun v => v.category).sum ≤ 8) (hst : st = as.reverse ++ sk) (d : decode (zKc K) pc = .ok (.invokestatic idx, 3))
    (kk : zV F E K n0 o (pc + 3) ls (v.toList ++ sk) M' (u + zKm K9) (us + zKs K9)) : zV F E K n0 o pc ls st M u us := by
  intro p l e R s m args below meth c D ca bs b H locs lr hC hR hS hA hn0 hL
  have hRm : R = zrm K := hC.2.2.2.2.2.2.1
  have hts := hC.2.2.2.2.1
  have hM := h9.2 l D ca bs b H.size hC.2.2.2.2.2.2.2.2.2.2.2.1
  have hp := zPre_of (M := M) hC hR hS hA
  have hstR : st.map (ztr bs b) = (as.map (ztr bs b)).reverse ++ sk.map (ztr bs b) := by rw [hst, List.map_append, List.map_reverse]
  obtain ⟨host, hhost⟩ := hl.1
  exact zV_back (sk := sk) (vx_runSN (host := host) (zFix hC) hM ⟨zCallN hC hok hh hf hhost, hts _ hl.2, trivial⟩ ⟨zPre_blind, fun U h1 h2 => ⟨rfl, hp U h1 h2⟩⟩ rfl (by rw [List.length_map]; exact hn) hL.1 hstR (zcat_map (m := m) (pc := pc) (lr := lr) hsk) d ⟨by rw [hRm]; exact hf.2.2.1, by rw [hRm]; exact hf.2.2.2⟩) kk hC hR hS hA hn0 hL h9.1
theorem z_callSNx {as : List Value} {Ex : String} {n idx : Nat} {st : List Value} (h9 : zCt E K9 as M (.inr Ex, M')) (hok : zOk K9 n) (hl : zLSN (zKy K).cls idx (zKy K9)) (hh : zKh K9 = []) (hn : as.length = n) (hf : zFit K K9 u us) (hsk : (sk.map fun v => v.category).sum ≤ 8) (hst : st = as.reverse ++ sk) (d : decode (zKc K) pc = .ok (.invokestatic idx, 3))
    (kk : zX F E K n0 o pc ls M' (u + zKm K9) (us + zKs K9) Ex) : zV F E K n0 o pc ls st M u us := by
  intro p l e R s m args below meth c D ca bs b H locs lr hC hR hS hA hn0 hL
  have hRm : R = zrm K := hC.2.2.2.2.2.2.1
  have hts := hC.2.2.2.2.1
  have hM := h9.2 l D ca bs b H.size hC.2.2.2.2.2.2.2.2.2.2.2.1
  have hp := zPre_of (M := M) hC hR hS hA
  have hstR : st.map (ztr bs b) = (as.map (ztr bs b)).reverse ++ sk.map (ztr bs b) := by rw [hst, List.map_append, List.map_reverse]
  obtain ⟨host, hhost⟩ := hl.1
  exact zV_thrown (sk := sk) (vx_runSN (host := host) (zFix hC) hM ⟨zCallN hC hok hh hf hhost, hts _ hl.2, trivial⟩ ⟨zPre_blind, fun U h1 h2 => ⟨rfl, hp U h1 h2⟩⟩ rfl (by rw [List.length_map]; exact hn) hL.1 hstR (zcat_map (m := m) (pc := pc) (lr := lr) hsk) d ⟨by rw [hRm]; exact hf.2.2.1, by rw [hRm]; exact hf.2.2.2⟩) kk hC hR hS hA hn0 hL h9.1
theorem z_callI {k : Nat} {as : List Value} {v : Option Value} {n idx : Nat} {st : List Value} (h9 : zCt E K9 (.ref k :: as) M (.inl v, M')) (hok : zOk K9 n) (hl : zLI (zKy K).cls idx (zKy K9)) (hh : zKh K9 = []) (hr9 : zKr K9 = none) (hk0 : 0 < k) (hn : as.length = n) (hf : zFit K K9 u us) (hsk : (sk.map fun v => v.category).sum ≤ 8) (hst : st = as.reverse ++ .ref k :: sk) (d : decode (zKc K) pc = .ok (.invokespecial idx, 3))
    (kk : zV F E K n0 o (pc + 3) ls (v.toList ++ sk) M' (u + zKm K9) (us + zKs K9)) : zV F E K n0 o pc ls st M u us := by
  intro p l e R s m args below meth c D ca bs b H locs lr hC hR hS hA hn0 hL
  have hRm : R = zrm K := hC.2.2.2.2.2.2.1
  have hts := hC.2.2.2.2.1
  have hM := h9.2 l D ca bs b H.size hC.2.2.2.2.2.2.2.2.2.2.2.1
  have hp := zPre_of (M := M) hC hR hS hA
  have hz := zad_eq (bs := bs) (b := b) hk0
  have hstR : st.map (ztr bs b) = (as.map (ztr bs b)).reverse ++ .ref (bs + k) :: sk.map (ztr bs b) := by rw [hst, List.map_append, List.map_reverse, List.map_cons, ← hz]; rfl
  have hpc : ((Value.ref k :: as).map (ztr bs b)) = .ref (bs + k) :: as.map (ztr bs b) := by rw [List.map_cons, ← hz]; rfl
  rw [hpc] at hM
  exact zV_back (sk := sk) (vx_runI (zFix hC) hM ⟨by have h := zCallB hC hok hh hf hl.1; rw [hr9] at h; exact h, hl.2.2, hts _ hl.2.1⟩ ⟨zPre_blind, fun U h1 h2 => ⟨rfl, hp U h1 h2⟩⟩ rfl (by rw [List.length_map]; exact hn) hL.1 hstR (zcat_map (m := m) (pc := pc) (lr := lr) hsk) d ⟨by rw [hRm]; exact hf.2.2.1, by rw [hRm]; exact hf.2.2.2⟩) kk hC hR hS hA hn0 hL h9.1
theorem z_callIx {k : Nat} {as : List Value} {Ex : String} {n idx : Nat} {st : List Value} (h9 : zCt E K9 (.ref k :: as) M (.inr Ex, M')) (hok : zOk K9 n) (hl : zLI (zKy K).cls idx (zKy K9)) (hh : zKh K9 = []) (hr9 : zKr K9 = none) (hk0 : 0 < k) (hn : as.length = n) (hf : zFit K K9 u us) (hsk : (sk.map fun v => v.category).sum ≤ 8) (hst : st = as.reverse ++ .ref k :: sk) (d : decode (zKc K) pc = .ok (.invokespecial idx, 3))
    (kk : zX F E K n0 o pc ls M' (u + zKm K9) (us + zKs K9) Ex) : zV F E K n0 o pc ls st M u us := by
  intro p l e R s m args below meth c D ca bs b H locs lr hC hR hS hA hn0 hL
  have hRm : R = zrm K := hC.2.2.2.2.2.2.1
  have hts := hC.2.2.2.2.1
  have hM := h9.2 l D ca bs b H.size hC.2.2.2.2.2.2.2.2.2.2.2.1
  have hp := zPre_of (M := M) hC hR hS hA
  have hz := zad_eq (bs := bs) (b := b) hk0
  have hstR : st.map (ztr bs b) = (as.map (ztr bs b)).reverse ++ .ref (bs + k) :: sk.map (ztr bs b) := by rw [hst, List.map_append, List.map_reverse, List.map_cons, ← hz]; rfl
  have hpc : ((Value.ref k :: as).map (ztr bs b)) = .ref (bs + k) :: as.map (ztr bs b) := by rw [List.map_cons, ← hz]; rfl
  rw [hpc] at hM
  exact zV_thrown (sk := sk) (vx_runI (zFix hC) hM ⟨by have h := zCallB hC hok hh hf hl.1; rw [hr9] at h; exact h, hl.2.2, hts _ hl.2.1⟩ ⟨zPre_blind, fun U h1 h2 => ⟨rfl, hp U h1 h2⟩⟩ rfl (by rw [List.length_map]; exact hn) hL.1 hstR (zcat_map (m := m) (pc := pc) (lr := lr) hsk) d ⟨by rw [hRm]; exact hf.2.2.1, by rw [hRm]; exact hf.2.2.2⟩) kk hC hR hS hA hn0 hL h9.1
theorem z_callIN {k : Nat} {as : List Value} {v : Option Value} {n idx : Nat} {st : List Value} (h9 : zCt E K9 (.ref k :: as) M (.inl v, M')) (hok : zOk K9 n) (hl : zLIN (zKy K).cls idx (zKy K9)) (hh : zKh K9 = []) (hr9 : zKr K9 = none) (hk0 : 0 < k) (hn : as.length = n) (hf : zFit K K9 u us) (hsk : (sk.map fun v => v.category).sum ≤ 8) (hst : st = as.reverse ++ .ref k :: sk) (d : decode (zKc K) pc = .ok (.invokespecial idx, 3))
    (kk : zV F E K n0 o (pc + 3) ls (v.toList ++ sk) M' (u + zKm K9) (us + zKs K9)) : zV F E K n0 o pc ls st M u us := by
  intro p l e R s m args below meth c D ca bs b H locs lr hC hR hS hA hn0 hL
  have hRm : R = zrm K := hC.2.2.2.2.2.2.1
  have hts := hC.2.2.2.2.1
  have hM := h9.2 l D ca bs b H.size hC.2.2.2.2.2.2.2.2.2.2.2.1
  have hp := zPre_of (M := M) hC hR hS hA
  have hz := zad_eq (bs := bs) (b := b) hk0
  have hstR : st.map (ztr bs b) = (as.map (ztr bs b)).reverse ++ .ref (bs + k) :: sk.map (ztr bs b) := by rw [hst, List.map_append, List.map_reverse, List.map_cons, ← hz]; rfl
  have hpc : ((Value.ref k :: as).map (ztr bs b)) = .ref (bs + k) :: as.map (ztr bs b) := by rw [List.map_cons, ← hz]; rfl
  rw [hpc] at hM
  obtain ⟨host, hhost⟩ := hl.1
  exact zV_back (sk := sk) (vx_runIN (host := host) (zFix hC) hM ⟨by have h := zCallN hC hok hh hf hhost; rw [hr9] at h; exact h, hl.2.2, hts _ hl.2.1⟩ ⟨zPre_blind, fun U h1 h2 => ⟨rfl, hp U h1 h2⟩⟩ rfl (by rw [List.length_map]; exact hn) hL.1 hstR (zcat_map (m := m) (pc := pc) (lr := lr) hsk) d ⟨by rw [hRm]; exact hf.2.2.1, by rw [hRm]; exact hf.2.2.2⟩) kk hC hR hS hA hn0 hL h9.1
theorem z_callINx {k : Nat} {as : List Value} {Ex : String} {n idx : Nat} {st : List Value} (h9 : zCt E K9 (.ref k :: as) M (.inr Ex, M')) (hok : zOk K9 n) (hl : zLIN (zKy K).cls idx (zKy K9)) (hh : zKh K9 = []) (hr9 : zKr K9 = none) (hk0 : 0 < k) (hn : as.length = n) (hf : zFit K K9 u us) (hsk : (sk.map fun v => v.category).sum ≤ 8) (hst : st = as.reverse ++ .ref k :: sk) (d : decode (zKc K) pc = .ok (.invokespecial idx, 3))
    (kk : zX F E K n0 o pc ls M' (u + zKm K9) (us + zKs K9) Ex) : zV F E K n0 o pc ls st M u us := by
  intro p l e R s m args below meth c D ca bs b H locs lr hC hR hS hA hn0 hL
  have hRm : R = zrm K := hC.2.2.2.2.2.2.1
  have hts := hC.2.2.2.2.1
  have hM := h9.2 l D ca bs b H.size hC.2.2.2.2.2.2.2.2.2.2.2.1
  have hp := zPre_of (M := M) hC hR hS hA
  have hz := zad_eq (bs := bs) (b := b) hk0
  have hstR : st.map (ztr bs b) = (as.map (ztr bs b)).reverse ++ .ref (bs + k) :: sk.map (ztr bs b) := by rw [hst, List.map_append, List.map_reverse, List.map_cons, ← hz]; rfl
  have hpc : ((Value.ref k :: as).map (ztr bs b)) = .ref (bs + k) :: as.map (ztr bs b) := by rw [List.map_cons, ← hz]; rfl
  rw [hpc] at hM
  obtain ⟨host, hhost⟩ := hl.1
  exact zV_thrown (sk := sk) (vx_runIN (host := host) (zFix hC) hM ⟨by have h := zCallN hC hok hh hf hhost; rw [hr9] at h; exact h, hl.2.2, hts _ hl.2.1⟩ ⟨zPre_blind, fun U h1 h2 => ⟨rfl, hp U h1 h2⟩⟩ rfl (by rw [List.length_map]; exact hn) hL.1 hstR (zcat_map (m := m) (pc := pc) (lr := lr) hsk) d ⟨by rw [hRm]; exact hf.2.2.1, by rw [hRm]; exact hf.2.2.2⟩) kk hC hR hS hA hn0 hL h9.1
theorem z_callSX {as : List Value} {v : Option Value} {n idx : Nat} {st : List Value} (h9 : zCt E K9 as M (.inl v, M')) (hok : zOk K9 n) (hl : zLS (zKy K).cls idx (zKy K9)) {x9 : Nat × Nat × Nat × Nat} {t9 : List (Nat × Nat × Nat × Nat)} (hh : zKh K9 = x9 :: t9) (hn : as.length = n) (hf : zFit K K9 u us) (hsk : (sk.map fun v => v.category).sum ≤ 8) (hst : st = as.reverse ++ sk) (d : decode (zKc K) pc = .ok (.invokestatic idx, 3))
    (kk : zV F E K n0 o (pc + 3) ls (v.toList ++ sk) M' (u + zKm K9) (us + zKs K9)) : zV F E K n0 o pc ls st M u us := by
  intro p l e R s m args below meth c D ca bs b H locs lr hC hR hS hA hn0 hL
  have hRm : R = zrm K := hC.2.2.2.2.2.2.1
  have hts := hC.2.2.2.2.1
  have hM := h9.2 l D ca bs b H.size hC.2.2.2.2.2.2.2.2.2.2.2.1
  have hp := zPre_of (M := M) hC hR hS hA
  have hstR : st.map (ztr bs b) = (as.map (ztr bs b)).reverse ++ sk.map (ztr bs b) := by rw [hst, List.map_append, List.map_reverse]
  exact zV_back (sk := sk) (vx_runSX (zFix hC) hM (zCallX hC hok hh hf hl) ⟨zPre_blind, fun U h1 h2 => ⟨rfl, hp U h1 h2⟩⟩ rfl (by rw [List.length_map]; exact hn) hL.1 hstR (zcat_map (m := m) (pc := pc) (lr := lr) hsk) d ⟨by rw [hRm]; exact hf.2.2.1, by rw [hRm]; exact hf.2.2.2⟩) kk hC hR hS hA hn0 hL h9.1
theorem z_callSXx {as : List Value} {Ex : String} {n idx : Nat} {st : List Value} (h9 : zCt E K9 as M (.inr Ex, M')) (hok : zOk K9 n) (hl : zLS (zKy K).cls idx (zKy K9)) {x9 : Nat × Nat × Nat × Nat} {t9 : List (Nat × Nat × Nat × Nat)} (hh : zKh K9 = x9 :: t9) (hn : as.length = n) (hf : zFit K K9 u us) (hsk : (sk.map fun v => v.category).sum ≤ 8) (hst : st = as.reverse ++ sk) (d : decode (zKc K) pc = .ok (.invokestatic idx, 3))
    (kk : zX F E K n0 o pc ls M' (u + zKm K9) (us + zKs K9) Ex) : zV F E K n0 o pc ls st M u us := by
  intro p l e R s m args below meth c D ca bs b H locs lr hC hR hS hA hn0 hL
  have hRm : R = zrm K := hC.2.2.2.2.2.2.1
  have hts := hC.2.2.2.2.1
  have hM := h9.2 l D ca bs b H.size hC.2.2.2.2.2.2.2.2.2.2.2.1
  have hp := zPre_of (M := M) hC hR hS hA
  have hstR : st.map (ztr bs b) = (as.map (ztr bs b)).reverse ++ sk.map (ztr bs b) := by rw [hst, List.map_append, List.map_reverse]
  exact zV_thrown (sk := sk) (vx_runSX (zFix hC) hM (zCallX hC hok hh hf hl) ⟨zPre_blind, fun U h1 h2 => ⟨rfl, hp U h1 h2⟩⟩ rfl (by rw [List.length_map]; exact hn) hL.1 hstR (zcat_map (m := m) (pc := pc) (lr := lr) hsk) d ⟨by rw [hRm]; exact hf.2.2.1, by rw [hRm]; exact hf.2.2.2⟩) kk hC hR hS hA hn0 hL h9.1
end ZC
