/-! ends of methods, throws, catches, contracts out of walks -/
def zNm : List String := ["java/lang/RuntimeException", "java/lang/Exception"]
def zTh (own : String) (ik ic : Nat) (cls : String) : Prop := Bundle.fit cls = true ∧ Cond.classLink own ik cls ∈ zG ∧ Cond.initialized cls ∈ zG ∧ (∀ w ∈ (vx_atS own ic cls zNm).filter goodWord, w ∈ zG) ∧ (∀ w ∈ (vx_atS own ic cls zNm).filter (fun w => !goodWord w), w ∈ Cond.castable cls cls :: zDec.map Cond.declares) ∧ cls ∈ zXs ∧ (∀ w ∈ Cond.classLink own ik cls :: Cond.initialized cls :: vx_atS own ic cls zNm, vx_ot w = true) ∧ (∀ n ∈ zNm, Bundle.fit n = true)
theorem zL_setN {bs b i : Nat} {ls : List Value} {lr lr' : Array Slot} {nL : Nat} {x : Value} (h : zL bs b ls lr nL) 
    (h' : lv_has lr' nL ((i, x) :: (zlv bs b ls).filter (fun q => !(q.1 == i) && !(q.1 + 1 == i && q.2.category == 2)))) : zL bs b (ls.set i .null) lr' nL := by
  have h9 : zL bs b (ls.set i .null) lr' nL := by
    obtain ⟨h1, h2, h3, h4, h5⟩ := h
    obtain ⟨g1, g2, g3⟩ := h'
    refine ⟨g1, g2, by rw [List.length_set]; exact h3, fun v hv => ?_, fun j v hj hv => ?_⟩
    · rcases List.mem_or_eq_of_mem_set hv with h | rfl
      · exact h4 v h
      · rfl
    · by_cases hij : i = j
      · subst hij
        have hl : i < (ls.set i .null).length := (List.getElem?_eq_some_iff.mp hj).1
        rw [List.length_set] at hl
        rw [List.getElem?_set_self hl] at hj
        cases hj
        exact absurd rfl hv
      · rw [List.getElem?_set_ne hij] at hj
        refine g3 (j, ztr bs b v) (List.mem_cons_of_mem _ (List.mem_filter.mpr ⟨?_, ?_⟩))
        · have hl : j < ls.length := (List.getElem?_eq_some_iff.mp hj).1
          have he : ls.getD j .null = v := by rw [List.getD_eq_getElem?_getD, hj]; rfl
          simp only [zlv, List.mem_filterMap, List.mem_range]
          exact ⟨j, hl, by rw [he, if_neg hv]⟩
        · have hc : (ztr bs b v).category = 1 := by rw [ztr_cat]; exact h4 v (List.mem_of_getElem? hj)
          simp only [hc]
          simp
          omega
  exact h9
section ZN
variable {F : Bool} {E : Nat × (Nat → Int32)} {K K9 : zK} {n0 : Nat} {o : zO} {pc : Nat} {ls sk : List Value} {M M' : zM} {u us : Nat}
theorem z_iret {v : Int32} {ty : FieldType} (ho : o = (.inl (some (.int v)), M)) (hr : zKr K = some ty) (hn : narrow ty (.int v) = .int v) (hu : u ≤ zKm K) (hus : us ≤ zKs K) (d : decode (zKc K) pc = .ok (.ireturn, 1)) : zV false E K n0 o pc ls [.int v] M u us := by
  intro p l e R s m args below meth c D ca bs b H locs lr hC hR hS hA hn0 hL
  have hlocks : meth.locks = false := hC.2.2.2.2.2.1
  refine W.widen (k := zKm K) (n := zKs K) hu hus ?_
  exact vx_ret (W.zret hC.1 hC.2.1 (hC.2.2.2.2.2.2.2.1.trans hr) hn (fun t ht hW => ⟨some (.int v), by rw [ho], rfl, by rw [ho, ht]; exact hR, hS.F ht⟩) hS.2.2 d)
theorem z_vret (ho : o = (.inl none, M)) (hr : zKr K = none) (hu : u ≤ zKm K) (hus : us ≤ zKs K) (d : decode (zKc K) pc = .ok (.return_, 1)) : zV false E K n0 o pc ls [] M u us := by
  intro p l e R s m args below meth c D ca bs b H locs lr hC hR hS hA hn0 hL
  have hlocks : meth.locks = false := hC.2.2.2.2.2.1
  refine W.widen (k := zKm K) (n := zKs K) hu hus ?_
  exact vx_ret (W.vret hC.1 hC.2.1 (hC.2.2.2.2.2.2.2.1.trans hr) (fun t ht hW => ⟨none, by rw [ho], rfl, by rw [ho, ht]; exact hR, hS.F ht⟩) hS.2.2 d)
theorem z_aret {k : Nat} {nm : String} (ho : o = (.inl (some (.ref k)), M)) (hr : zKr K = some (.object nm)) (hu : u ≤ zKm K) (hus : us ≤ zKs K) (d : decode (zKc K) pc = .ok (.areturn, 1)) : zV false E K n0 o pc ls [.ref k] M u us := by
  intro p l e R s m args below meth c D ca bs b H locs lr hC hR hS hA hn0 hL
  have hlocks : meth.locks = false := hC.2.2.2.2.2.1
  refine W.widen (k := zKm K) (n := zKs K) hu hus ?_
  exact vx_ret (W.aret hC.1 hC.2.1 (hC.2.2.2.2.2.2.2.1.trans hr) (Or.inl ⟨_, rfl⟩) (Or.inr ⟨_, rfl⟩) (fun t ht hW => ⟨some (.ref k), by rw [ho], rfl, by rw [ho, ht]; exact hR, hS.F ht⟩) hS.2.2 d)
/-- whether the heap ends with the cells is forgotten -/
theorem z_loose (kk : zV F E K n0 o pc ls sk (zFz M) u us) : zV F E K n0 o pc ls sk M u us := by
  intro p l e R s m args below meth c D ca bs b H locs lr hC hR hS hA hn0 hL
  refine kk p l e R s m args below meth c D ca bs b H locs lr hC ⟨?_, fun h => (by cases h), hR.2.2⟩ hS hA hn0 hL
  have : zw ca bs (zFz M) = zw ca bs M := rfl
  rw [this]
  exact hR.1
theorem z_throw {ik ic is : Nat} {cls text : String} (ho : o = (.inr cls, zFz M)) (hT : zTh (zKy K).cls ik ic cls) (hstr : ((zKy K).cls, is, text) ∈ zstrs) (hh : zKh K = []) (hf : 5 < zKf K) (hlo : (sk.map fun v => v.category).sum + 82 ≤ zKo K) (hu : u + 1 ≤ zKm K) (hus : us + 6 ≤ zKs K)
    (d0 : decode (zKc K) pc = .ok (.new ik, 3)) (d3 : decode (zKc K) (pc + 3) = .ok (.dup, 1)) (d4 : decode (zKc K) (pc + 4) = .ok (.ldc is, 2)) (d6 : decode (zKc K) (pc + 6) = .ok (.invokespecial ic, 3)) (d9 : decode (zKc K) (pc + 9) = .ok (.athrow, 1)) : zV false E K n0 o pc ls sk M u us := by
  intro p l e R s m args below meth c D ca bs b H locs lr hC hR hS hA hn0 hL
  have hts := hC.2.2.2.2.1
  have hRm : R = zrm K := hC.2.2.2.2.2.2.1
  have hEv := hC.2.2.2.2.2.2.2.2.2.2.1
  obtain ⟨t1, t2, t3, t4, t5, t6, t7, t8⟩ := hT
  obtain ⟨sa, hsa⟩ := hEv.2.2.1 _ hstr
  refine vx_throwS (names := zNm) (mc := zKm K) (ms := zKs K) hC.1 hC.2.1 hC.2.2.2.2.2.2.2.2.2.2.2.1 hC.2.2.2.1 t1 t8 (hts _ t2) (hts _ t3) hsa (vx_hat (fun w hw => hts _ (t4 w hw)) t5 (fun w hw => ?_)) t7 hEv.1 hEv.2.1 hS (by rw [hC.2.2.1]; exact hL.1) d0 d3 d4 d6 d9 ?_ (by rw [hRm]; exact hf) ?_ (by rw [hRm]; exact hu) (by rw [hRm]; exact hus) hC.2.2.2.2.2.1 (fun t hA9 hz hq => ?_) hS.2.2 hu hus
  · rcases List.mem_cons.mp hw with rfl | hw
    · exact va_Nw.use rfl (hEv.2.2.2.2.2.2.2.2.1 _ t6)
    · obtain ⟨y, hy, rfl⟩ := List.mem_map.mp hw
      exact va_Nw.use rfl (hEv.2.2.2.2.2.2.2.2.2.2 y hy)
  · rw [hC.2.2.2.2.2.2.2.2.1, hh]
    intro x hx
    cases hx
  · rw [hRm, List.map_map]
    have : ((fun v : Value => v.category) ∘ ztr bs b) = fun v => v.category := by funext v; exact ztr_cat
    rw [this]
    exact hlo
  · refine ⟨by rw [ho], ?_, ?_⟩
    · rw [ho]
      refine ⟨?_, fun h => (by cases h), Nat.lt_of_lt_of_le hR.2.2.1 hz, fun a ha => ⟨(hR.2.2.2.1 a ha).1, Nat.lt_of_lt_of_le (hR.2.2.2.1 a ha).2 hz⟩, hR.2.2.2.2⟩
      have h9 : zw ca bs (zFz M) = zw ca bs M := rfl
      rw [h9]
      exact hR.1.kept fun k q hk => hq _ (hR.1 k q hk).lt
    · exact ⟨Nat.le_trans hS.1 hz, fun q h1 h2 => (hq q (Nat.lt_of_lt_of_le h1 hS.1)).trans (hS.2.1 q h1 h2)⟩
theorem z_throwW {ik ic is : Nat} {cls text : String} (ho : o = (.inr cls, zFz M)) (hT : zTh (zKy K).cls ik ic cls) (hstr : ((zKy K).cls, is, text) ∈ zstrs) (hh : zKh K = []) (hf : 5 < zKf K) (hlo : (sk.map fun v => v.category).sum + 82 ≤ zKo K) (hu : u + 1 ≤ zKm K) (hus : us + 6 ≤ zKs K)
    (d0 : decode (zKc K) pc = .ok (.new ik, 3)) (d3 : decode (zKc K) (pc + 3) = .ok (.dup, 1)) (d4 : decode (zKc K) (pc + 4) = .ok (.ldc_w is, 3)) (d7 : decode (zKc K) (pc + 7) = .ok (.invokespecial ic, 3)) (d10 : decode (zKc K) (pc + 10) = .ok (.athrow, 1)) : zV false E K n0 o pc ls sk M u us := by
  intro p l e R s m args below meth c D ca bs b H locs lr hC hR hS hA hn0 hL
  have hts := hC.2.2.2.2.1
  have hRm : R = zrm K := hC.2.2.2.2.2.2.1
  have hEv := hC.2.2.2.2.2.2.2.2.2.2.1
  obtain ⟨t1, t2, t3, t4, t5, t6, t7, t8⟩ := hT
  obtain ⟨sa, hsa⟩ := hEv.2.2.1 _ hstr
  refine vx_throwSW (names := zNm) (mc := zKm K) (ms := zKs K) hC.1 hC.2.1 hC.2.2.2.2.2.2.2.2.2.2.2.1 hC.2.2.2.1 t1 t8 (hts _ t2) (hts _ t3) hsa (vx_hat (fun w hw => hts _ (t4 w hw)) t5 (fun w hw => ?_)) t7 hEv.1 hEv.2.1 hS (by rw [hC.2.2.1]; exact hL.1) d0 d3 d4 d7 d10 ?_ (by rw [hRm]; exact hf) ?_ (by rw [hRm]; exact hu) (by rw [hRm]; exact hus) hC.2.2.2.2.2.1 (fun t hA9 hz hq => ?_) hS.2.2 hu hus
  · rcases List.mem_cons.mp hw with rfl | hw
    · exact va_Nw.use rfl (hEv.2.2.2.2.2.2.2.2.1 _ t6)
    · obtain ⟨y, hy, rfl⟩ := List.mem_map.mp hw
      exact va_Nw.use rfl (hEv.2.2.2.2.2.2.2.2.2.2 y hy)
  · rw [hC.2.2.2.2.2.2.2.2.1, hh]
    intro x hx
    cases hx
  · rw [hRm, List.map_map]
    have : ((fun v : Value => v.category) ∘ ztr bs b) = fun v => v.category := by funext v; exact ztr_cat
    rw [this]
    exact hlo
  · refine ⟨by rw [ho], ?_, ?_⟩
    · rw [ho]
      refine ⟨?_, fun h => (by cases h), Nat.lt_of_lt_of_le hR.2.2.1 hz, fun a ha => ⟨(hR.2.2.2.1 a ha).1, Nat.lt_of_lt_of_le (hR.2.2.2.1 a ha).2 hz⟩, hR.2.2.2.2⟩
      have h9 : zw ca bs (zFz M) = zw ca bs M := rfl
      rw [h9]
      exact hR.1.kept fun k q hk => hq _ (hR.1 k q hk).lt
    · exact ⟨Nat.le_trans hS.1 hz, fun q h1 h2 => (hq q (Nat.lt_of_lt_of_le h1 hS.1)).trans (hS.2.1 q h1 h2)⟩
/-- not caught here -/
theorem zX_out {Ex : String} (ho : o = (.inr Ex, M)) (hh : zKh K = []) (hu : u ≤ zKm K) (hus : us ≤ zKs K) : zX false E K n0 o pc ls M u us Ex := by
  intro p l e R s m args below meth c D ca bs b H locs lr rest q ce hC hR hS hA hn0 hL h1 h2 h3
  refine vx_out (E := Ex) (ce := ce) ?_ hC.2.2.2.2.2.1 h1 h2 h3 (fun t ht hA9 => ⟨by rw [ho], by rw [ho, ht]; exact hR, hS.F ht⟩) hS.2.2 hu hus
  rw [hC.2.2.2.2.2.2.2.2.1, hh]
  intro x hx
  cases hx
/-- caught by a row of the table; the handler keeps it in a local -/
theorem zX_catch {Ex : String} {i hp : Nat} {ls1 : List Value} (pre : List (Nat × Nat × Nat × Nat)) (x : Nat × Nat × Nat × Nat) (suf : List (Nat × Nat × Nat × Nat)) (hs : zKh K = pre ++ x :: suf) (hpre : ∀ z ∈ pre, z.2.2.2 ≠ 0 ∧ ∃ nm, Cond.classLink (zKy K).cls z.2.2.2 nm ∈ zG ∧ (Ex, nm) ∈ zNcs) (hx : x.1 ≤ pc ∧ pc < x.2.1) (hh : x.2.2.1 = hp) (h0 : x.2.2.2 ≠ 0) (hl : Cond.classLink (zKy K).cls x.2.2.2 Ex ∈ zG) (hX : Ex ∈ zXs) (hn : i < zKl K) (hl1 : ls.set i .null = ls1)
    (d : decode (zKc K) hp = .ok (.astore i, 2)) (kk : zV F E K n0 o (hp + 2) ls1 [] M u us) : zX F E K n0 o pc ls M u us Ex := by
  intro p l e R s m args below meth c D ca bs b H locs lr rest q ce hC hR hS hA hn0 hL h1 h2 h3
  have hts := hC.2.2.2.2.1
  have hEv := hC.2.2.2.2.2.2.2.2.2.2.1
  refine vx_catch (own := (zKy K).cls) (name := Ex) (E := Ex) (ce := ce) hC.2.2.2.1 (tableOf pre) ⟨x.1, x.2.1, x.2.2.1, x.2.2.2⟩ (tableOf suf) ?_ ?_ ?_ h0 (hts _ hl) (va_Nw.use rfl (hEv.2.2.2.2.2.2.2.2.1 _ hX)) h1 h2 h3 ?_
  · rw [hC.2.2.2.2.2.2.2.2.1, hs]
    simp [tableOf]
  · intro z hz
    simp only [tableOf, List.mem_map] at hz
    obtain ⟨z9, hz9, rfl⟩ := hz
    obtain ⟨g1, nm, g2, g3⟩ := hpre z9 hz9
    exact Or.inr ⟨g1, nm, hts _ g2, hEv.2.2.2.1 _ g3⟩
  · simp [covers, hx.1, hx.2]
  · rw [hh]
    subst hl1
    exact lv_astore (nL := zKl K) hC.1 hC.2.1 d (zL_has hL) hn rfl (fun lr1 h9 => kk p l e R s m args below meth c D ca bs b H locs lr1 hC hR hS hA hn0 (zL_setN hL h9))
theorem z_sld {i : Int32} (hin : vp_in i E.1) (d : decode (zKc K) pc = .ok (.iaload, 1))
    (kk : zV F E K n0 o (pc + 1) ls (.int (E.2 i.toNatClampNeg) :: sk) M u us) : zV F E K n0 o pc ls (.int i :: .ref 0 :: sk) M u us := by
  intro p l e R s m args below meth c D ca bs b H locs lr hC hR hS hA hn0 hL
  have hEv := hC.2.2.2.2.2.2.2.2.2.2.1
  exact va_sld (rest := sk.map (ztr bs b)) hC.1 hC.2.1 hEv.2.2.2.2.1 hEv.2.2.2.2.2.1 (zA_b hC) hS hin d (kk p l e R s m args below meth c D ca bs b H locs lr hC hR hS hA hn0 hL)
theorem z_slen (d : decode (zKc K) pc = .ok (.arraylength, 1))
    (kk : zV F E K n0 o (pc + 1) ls (.int (Int32.ofNat E.1) :: sk) M u us) : zV F E K n0 o pc ls (.ref 0 :: sk) M u us := by
  intro p l e R s m args below meth c D ca bs b H locs lr hC hR hS hA hn0 hL
  have hEv := hC.2.2.2.2.2.2.2.2.2.2.1
  exact va_slen (rest := sk.map (ztr bs b)) hC.1 hC.2.1 hEv.2.2.2.2.1 hEv.2.2.2.2.2.1 (zA_b hC) hS d (kk p l e R s m args below meth c D ca bs b H locs lr hC hR hS hA hn0 hL)
theorem z_max {idx : Nat} {x y : Int32} (hl : Cond.methodLink (zKy K).cls idx Lib.Math.max.name ∈ zG) (h2 : Cond.static Lib.Math.max.name ∈ zG) (h3 : Cond.initialized "java/lang/Math" ∈ zG) (h4 : Cond.code Lib.Math.max.name Lib.Math.max.code 2 (some .int) ∈ zG) (hf : 1 ≤ zKf K) (hlo : (sk.map fun v => v.category).sum + 13 ≤ zKo K) (hu : u ≤ zKm K) (hus : us ≤ zKs K) (d : decode (zKc K) pc = .ok (.invokestatic idx, 3))
    (kk : zV F E K n0 o (pc + 3) ls (.int (if x < y then y else x) :: sk) M u us) : zV F E K n0 o pc ls (.int y :: .int x :: sk) M u us := by
  refine zgo (fun p l e R s m args below meth c D ca bs b H locs lr Q hC hR hL k9 => ?_) kk
  have hts := hC.2.2.2.2.1
  have hRm : R = zrm K := hC.2.2.2.2.2.2.1
  refine va_mmax (rest := sk.map (ztr bs b)) hC.1 hC.2.1 (hC.2.2.1.trans hL.1.symm) hC.2.2.2.1 (hts _ hl) (hts _ h2) (hts _ h3) (hts _ h4) (by rw [hRm]; exact hf) ?_ (by rw [hRm]; exact hu) (by rw [hRm]; exact hus) d k9
  rw [hRm, List.map_map]
  have : ((fun v : Value => v.category) ∘ ztr bs b) = fun v => v.category := by funext v; exact ztr_cat
  rw [this]
  exact hlo
theorem z_abs {idx : Nat} {x : Int32} (hl : Cond.methodLink (zKy K).cls idx Lib.Math.abs.name ∈ zG) (h2 : Cond.static Lib.Math.abs.name ∈ zG) (h3 : Cond.initialized "java/lang/Math" ∈ zG) (h4 : Cond.code Lib.Math.abs.name Lib.Math.abs.code 1 (some .int) ∈ zG) (hf : 1 ≤ zKf K) (hlo : (sk.map fun v => v.category).sum + 13 ≤ zKo K) (hu : u ≤ zKm K) (hus : us ≤ zKs K) (d : decode (zKc K) pc = .ok (.invokestatic idx, 3))
    (kk : zV F E K n0 o (pc + 3) ls (.int (if 0 ≤ x then x else 0 - x) :: sk) M u us) : zV F E K n0 o pc ls (.int x :: sk) M u us := by
  refine zgo (fun p l e R s m args below meth c D ca bs b H locs lr Q hC hR hL k9 => ?_) kk
  have hts := hC.2.2.2.2.1
  have hRm : R = zrm K := hC.2.2.2.2.2.2.1
  refine va_mabs (rest := sk.map (ztr bs b)) hC.1 hC.2.1 (hC.2.2.1.trans hL.1.symm) hC.2.2.2.1 (hts _ hl) (hts _ h2) (hts _ h3) (hts _ h4) (by rw [hRm]; exact hf) ?_ (by rw [hRm]; exact hu) (by rw [hRm]; exact hus) d k9
  rw [hRm, List.map_map]
  have : ((fun v : Value => v.category) ∘ ztr bs b) = fun v => v.category := by funext v; exact ztr_cat
  rw [this]
  exact hlo
theorem z_tabIn {x : Int32} {dflt lo hi : Int} {offs : Array Int} {len : Nat} (off : Int) (tgt : Nat) (h1 : ¬ x.toInt < lo) (h2 : ¬ hi < x.toInt) (ho : offs[(x.toInt - lo).toNat]? = some off) (ht : (pc : Int) + off = (tgt : Int)) (d : decode (zKc K) pc = .ok (.tableswitch dflt lo hi offs, len))
    (kk : zV F E K n0 o tgt ls sk M u us) : zV F E K n0 o pc ls (.int x :: sk) M u us := zgo (fun _ _ _ _ _ _ _ _ _ _ _ _ _ _ _ _ _ _ hC _ _ k9 => lv_tableIn hC.1 hC.2.1 d h1 h2 ho ht k9) kk
theorem z_tabOut {x : Int32} {dflt lo hi : Int} {offs : Array Int} {len : Nat} (tgt : Nat) (h : x.toInt < lo ∨ hi < x.toInt) (ht : (pc : Int) + dflt = (tgt : Int)) (d : decode (zKc K) pc = .ok (.tableswitch dflt lo hi offs, len))
    (kk : zV F E K n0 o tgt ls sk M u us) : zV F E K n0 o pc ls (.int x :: sk) M u us := zgo (fun _ _ _ _ _ _ _ _ _ _ _ _ _ _ _ _ _ _ hC _ _ k9 => lv_tableOut hC.1 hC.2.1 d h ht k9) kk
theorem z_look {x : Int32} {dflt : Int} {ps : Array (Int × Int)} {len : Nat} (off : Int) (tgt : Nat) (hp : (ps.toList.zip (ps.toList.drop 1)).all (fun (a, next) => a.1 < next.1) = true) (ho : Op.lookupswitch.offset ps.toList dflt x.toInt = off) (ht : (pc : Int) + off = (tgt : Int)) (d : decode (zKc K) pc = .ok (.lookupswitch dflt ps, len))
    (kk : zV F E K n0 o tgt ls sk M u us) : zV F E K n0 o pc ls (.int x :: sk) M u us := zgo (fun _ _ _ _ _ _ _ _ _ _ _ _ _ _ _ _ _ _ hC _ _ k9 => lv_lookup hC.1 hC.2.1 d hp ho ht k9) kk
/-- the locals at the entry: the arguments, then what isn't set -/
def zEnt (K : zK) (as : List Value) : List Value := as ++ List.replicate (zKl K - as.length) .null
theorem zent_L {bs b nL : Nat} {as : List Value} (h1 : as.length ≤ nL) (h2 : ∀ v ∈ as, v.category = 1 ∧ v ≠ .null) : ∃ lr : Array Slot, (lg_sl (as.map (ztr bs b)) ++ List.replicate (nL - (lg_sl (as.map (ztr bs b))).length) Slot.unset).toArray = lr ∧ zL bs b (as ++ List.replicate (nL - as.length) .null) lr nL := by
  have hsl : ∀ (l : List Value), (∀ v ∈ l, v.category = 1) → lg_sl (l.map (ztr bs b)) = l.map (fun v => Slot.val (ztr bs b v)) := by
    intro l
    induction l with
    | nil => intro _; rfl
    | cons v l ih =>
      intro h
      have hv : (ztr bs b v).category = 1 := by rw [ztr_cat]; exact h v List.mem_cons_self
      have ih' := ih (fun w hw => h w (List.mem_cons_of_mem _ hw))
      simp only [lg_sl, List.map_cons, List.flatMap_cons, hv] at ih' ⊢
      rw [ih']
      rfl
  have hs := hsl as (fun v hv => (h2 v hv).1)
  have hlen : (lg_sl (as.map (ztr bs b))).length = as.length := by rw [hs, List.length_map]
  have hh := lv_entry (as.map (ztr bs b)) (n := nL) (by rw [hlen]; exact h1)
  refine ⟨_, rfl, hh.1, hh.2.1, by simp; omega, fun v hv => ?_, fun i v hi hv => ?_⟩
  · rcases List.mem_append.mp hv with h | h
    · exact (h2 v h).1
    · rw [(List.mem_replicate.mp h).2]; rfl
  · rw [List.getElem?_toArray, hs]
    by_cases hl : i < as.length
    · rw [List.getElem?_append_left hl] at hi
      rw [List.getElem?_append_left (by rw [List.length_map]; exact hl), List.getElem?_map, hi]
      rfl
    · rw [List.getElem?_append_right (by omega)] at hi
      exact absurd (List.mem_replicate.mp (List.mem_of_getElem? hi)).2 hv
/-- a contract out of a walk -/
theorem zCt_of {as : List Value} {n : Nat} (hok : zOk K n) (h1 : as.length ≤ zKl K) (h2 : ∀ v ∈ as, v.category = 1 ∧ v ≠ .null) (hMM : zn M ≤ zn o.2 ∧ (zn M < zn o.2 → zt M = true)) (hn : 0 < zn M) (h : zV false E K (zn M) o 0 (zEnt K as) [] M 0 0) : zCt E K as M o := by
  refine ⟨hMM, fun l D ca bs b sz hl => ?_⟩
  have core : ∀ (p : Program) (e : Env) (s : State) (m : MethodId) (args : Array Value) (below : List Frame) (meth : Method) (c : Code) (s₁ : State), BodyLoose p l (zKy K) (headSpec (zws K) (zrm K)) (zKc K) (zKl K) (zKr K) e s m args below meth c s₁ → c.maxLocals = zKl K → c.exceptionTable.toList = tableOf (zKh K) → va_Pc (as.map (ztr bs b)) (zPre E D ca bs b M sz) args s →
      W p l e (headSpec (zws K) (zrm K)).room s m args below meth c s.heap [] 0 0 (vx_MQ below (zQc D ca bs b (zA bs (zn M) sz) o) (zXc D ca bs (zA bs (zn M) sz) o) args s (zKm K) (zKs K) (zA bs (zn M) sz)) (entryFrame m args (zKl K)) := by
    intro p e s m args below meth c s₁ B hml htab hv
    obtain ⟨rfl, hsz, hR, hK9, hEv, hb⟩ := hv
    subst hsz
    rw [lg_entry_eq]
    obtain ⟨lr, hlr, hL⟩ := zent_L (bs := bs) (b := b) (nL := zKl K) h1 h2
    rw [hlr]
    have hts := atoms_spec (ws := zws K) B.pre
    have hin : (zKy K).name = "<init>" → meth.name = "<init>" := fun h => by rw [← h]; exact (name_of_methodNamed B.named B.method).1
    exact h p l e (zrm K) s m _ below meth c D ca bs b s.heap [] lr ⟨B.exec, B.bytes, hml, findClass_of_methodNamed B.named, fun w hw => hts w (List.mem_cons_of_mem _ hw), B.notSynchronized, rfl, B.returns, htab, hK9, hEv, hl, hb, hR.2.2.1, hin⟩ hR va_S.rf (fun q a1 a2 => Or.inl ⟨a1, a2⟩) (Nat.le_refl _) hL
  rcases hh : zKh K with _ | ⟨x, t⟩
  · refine vx_ofW (cc := zKc K) (maxL := zKl K) (ret := zKr K) hok.2.2.2.2.2 (by rw [zws, zcw_plain hh]) fun p e s m args below meth c s₁ B hml ht hv => core p e s m args below meth c s₁ B hml ?_ hv
    rw [hh]
    rcases hc : c.exceptionTable.toList with _ | ⟨y, t9⟩
    · rfl
    · exact (ht y (by rw [hc]; exact List.mem_cons_self)).elim
  · refine vx_ofWH (cc := zKc K) (maxL := zKl K) (ret := zKr K) (hh := zKh K) hok.2.2.2.2.2 (by rw [zws, zcw_with hh]) fun p e s m args below meth c s₁ B hml hv => core p e s m args below meth c s₁ B hml ?_ hv
    have hts := atoms_spec (ws := zws K) B.pre
    exact vx_table (x := zKy K) B (hts (.codeWith (zKy K) (zKc K) (zKl K) (zKr K) (zKh K)) (by rw [zws, zcw_with hh]; exact List.mem_cons_self))
end ZN
