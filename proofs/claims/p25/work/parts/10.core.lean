/-! THE SMALL MACHINE: a run's world as numbers by cell and place; one judgement zV for all methods, a contract zCt for each -/
def zG : List Cond := lw_tbl.filter goodWord
theorem zG_tbl {w : Cond} (h : w ∈ zG) : w ∈ lw_tbl := (List.mem_filter.mp h).1
theorem zG_good {w : Cond} (h : w ∈ zG) : goodWord w = true := (List.mem_filter.mp h).2
theorem zG_in {w : Cond} (i : Nat) (h : tables_1[i]? = some w) (hg : goodWord w = true) : w ∈ zG := List.mem_filter.mpr ⟨List.mem_append_right _ (List.mem_of_getElem? h), hg⟩
theorem zG_sel {w : Cond} (i : Nat) (h : (k2_sels lw_privs)[i]? = some w) (hg : goodWord w = true) : w ∈ zG := List.mem_filter.mpr ⟨List.mem_append_left _ (List.mem_of_getElem? h), hg⟩
/-- a method: name, code, locals, answer, frames, local words, cells, slots, handlers -/
abbrev zK : Type := MethodName × ByteArray × Nat × Option FieldType × Nat × Nat × Nat × Nat × List (Nat × Nat × Nat × Nat)
abbrev zKy (K : zK) : MethodName := K.1
abbrev zKc (K : zK) : ByteArray := K.2.1
abbrev zKl (K : zK) : Nat := K.2.2.1
abbrev zKr (K : zK) : Option FieldType := K.2.2.2.1
abbrev zKf (K : zK) : Nat := K.2.2.2.2.1
abbrev zKo (K : zK) : Nat := K.2.2.2.2.2.1
abbrev zKm (K : zK) : Nat := K.2.2.2.2.2.2.1
abbrev zKs (K : zK) : Nat := K.2.2.2.2.2.2.2.1
abbrev zKh (K : zK) : List (Nat × Nat × Nat × Nat) := K.2.2.2.2.2.2.2.2
def zrm (K : zK) : Room := { frames := zKf K, cells := zKm K, slots := zKs K, locals := zKo K }
def zcw (K : zK) : Cond := match zKh K with
  | [] => .code (zKy K) (zKc K) (zKl K) (zKr K)
  | h :: t => .codeWith (zKy K) (zKc K) (zKl K) (zKr K) (h :: t)
def zws (K : zK) : List Cond := zcw K :: zG
/-- the law's own arrays of ints: where they lie (counted from the base), how many, what they hold -/
abbrev zLw : Type := (Nat → Nat) × Nat × (Nat → Nat → Int32)
/-- how long they are -/
def zlen (a : Nat) : Nat := [64, 64, 64, 64, 64, 4, 8, 4, 64, 64, 4, 32].getD a 0
/-- the memory: ints by cell and place; references by cell and place (0: null); kinds and sizes of the cells; how many cells; whether the heap ends with them; the one long -/
abbrev zM : Type := (Nat → Nat → Int32) × (Nat → Nat → Nat) × (Nat → Nat × Nat) × Nat × Bool × zLw
abbrev zi (M : zM) : Nat → Nat → Int32 := M.1
abbrev zr (M : zM) : Nat → Nat → Nat := M.2.1
abbrev zk (M : zM) : Nat → Nat × Nat := M.2.2.1
abbrev zn (M : zM) : Nat := M.2.2.2.1
abbrev zt (M : zM) : Bool := M.2.2.2.2.1
abbrev zo (M : zM) : zLw := M.2.2.2.2.2
/-- which fields of a class are ints -/
def zfl (ci : Nat) : List Bool := match ci with
  | 0 => [true, false, false, false, false, false, false]
  | 1 => [false, false, false, false]
  | 2 => [true, false]
  | 3 => [false, false, false, true]
  | 4 => [false, false, false, false, true]
  | 5 => [false, false, true]
  | 6 => [false, false, false]
  | 7 => [false, false, false, false, false, false, false, true]
  | _ => []
def zfv (bs : Nat) (m : Nat → Int32) (r : Nat → Nat) (fl : List Bool) (j : Nat) : Value := if fl.getD j true = true then .int (m j) else if r j = 0 then .null else .ref (bs + r j)
def zfs (bs : Nat) (m : Nat → Int32) (r : Nat → Nat) (fl : List Bool) : List Value := (List.range fl.length).map (zfv bs m r fl)
def zq (bs : Nat) (r : Nat → Nat) (j : Nat) : Option Nat := if r j = 0 then none else some (bs + r j)
def zE (ca : Nat → ClassId) (bs : Nat) (M : zM) (k : Nat) : va_E := match (zk M k).1 with
  | 0 => .inr ((zk M k).2, zfs bs (zi M k) (zr M k) (zfl (zk M k).2))
  | 1 => .inl (ca 0, (zk M k).2, .inl (zi M k))
  | 2 => .inl (ca 1, (zk M k).2, .inl (zi M k))
  | 3 => .inl (ca 2, (zk M k).2, .inl (zi M k))
  | 4 => .inl (ca 3, (zk M k).2, .inr (.inr (.inr (.inr (zq bs (zr M k))))))
  | _ => .inl (ca 4, (zk M k).2, .inr (.inr (.inr (.inr (zq bs (zr M k))))))
def zx (ca : Nat → ClassId) (bs : Nat) (M : zM) : va_W := (List.range (zo M).2.1).map (fun a => (bs + (zo M).1 a, .inl (ca 0, zlen a, .inl ((zo M).2.2 a))))
def zw (ca : Nat → ClassId) (bs : Nat) (M : zM) : va_W := (List.range (zn M)).map (fun j => (bs + (j + 1), zE ca bs M (j + 1))) ++ zx ca bs M
/-- the law's arrays lie behind the cells, one behind the other -/
def zX0 (bs : Nat) (M : zM) (sz : Nat) : Prop := (∀ a, a < (zo M).2.1 → zn M < (zo M).1 a ∧ bs + (zo M).1 a < sz) ∧ ∀ a a', a < a' → a' < (zo M).2.1 → (zo M).1 a < (zo M).1 a'
def ztys (ca : Nat → ClassId) : List (ClassId × FieldType) := [(ca 0, .int), (ca 1, .boolean), (ca 2, .int), (ca 3, .object RX0), (ca 4, .object RX2)]
def zad (bs b k : Nat) : Nat := if k = 0 then b else bs + k
def ztr (bs b : Nat) (v : Value) : Value := match v with
  | .ref k => .ref (zad bs b k)
  | v => v
theorem zw_at {ca : Nat → ClassId} {bs : Nat} {M : zM} {k : Nat} (h0 : 0 < k) (hk : k ≤ zn M) : (zw ca bs M)[k - 1]? = some (bs + k, zE ca bs M k) := by
  have h1 : k - 1 + 1 = k := by omega
  rw [zw, List.getElem?_append_left (by simp; omega)]
  simp [List.getElem?_map, List.getElem?_range (show k - 1 < zn M by omega), h1]
theorem zw_x {ca : Nat → ClassId} {bs : Nat} {M : zM} {a : Nat} (ha : a < (zo M).2.1) : (zw ca bs M)[zn M + a]? = some (bs + (zo M).1 a, .inl (ca 0, zlen a, .inl ((zo M).2.2 a))) := by
  rw [zw, List.getElem?_append_right (by simp)]
  simp [zx, List.getElem?_map, List.getElem?_range ha]
theorem zw_of {ca : Nat → ClassId} {bs : Nat} {M : zM} {i : Nat} {q : Nat × va_E} (h : (zw ca bs M)[i]? = some q) : (i < zn M ∧ q = (bs + (i + 1), zE ca bs M (i + 1))) ∨ ∃ a, a < (zo M).2.1 ∧ i = zn M + a ∧ q = (bs + (zo M).1 a, .inl (ca 0, zlen a, .inl ((zo M).2.2 a))) := by
  have hl := (List.getElem?_eq_some_iff.mp h).1
  have hl2 : i < zn M + (zo M).2.1 := by simpa [zw, zx] using hl
  by_cases hi : i < zn M
  · have h2 := zw_at (ca := ca) (bs := bs) (M := M) (k := i + 1) (by omega) (by omega)
    rw [Nat.add_sub_cancel] at h2
    rw [h2] at h
    exact Or.inl ⟨hi, (Option.some.inj h).symm⟩
  · obtain ⟨a, rfl⟩ : ∃ a, i = zn M + a := ⟨i - zn M, by omega⟩
    rw [zw_x (by omega)] at h
    exact Or.inr ⟨a, by omega, rfl, (Option.some.inj h).symm⟩
/-- a cell is set -/
theorem zw_set {ca : Nat → ClassId} {bs : Nat} {M M' : zM} {k : Nat} (h0 : 0 < k) (hk : k ≤ zn M) (hn : zn M' = zn M) (hx : zo M' = zo M) (ho : ∀ j, j ≠ k → zE ca bs M' j = zE ca bs M j) : (zw ca bs M).set (k - 1) (bs + k, zE ca bs M' k) = zw ca bs M' := by
  have e : zx ca bs M' = zx ca bs M := by unfold zx; rw [hx]
  apply List.ext_getElem?
  intro i
  rw [List.getElem?_set]
  by_cases hi : k - 1 = i
  · subst hi
    rw [if_pos rfl, if_pos (by simp [zw]; omega), zw_at h0 (by rw [hn]; exact hk)]
  · rw [if_neg hi]
    unfold zw
    rw [e, hn]
    by_cases hl : i < zn M
    · rw [List.getElem?_append_left (by simpa using hl), List.getElem?_append_left (by simpa using hl)]
      simp only [List.getElem?_map]
      rw [List.getElem?_range hl]
      simp only [Option.map_some]
      rw [ho (i + 1) (by omega)]
    · rw [List.getElem?_append_right (by simpa using hl), List.getElem?_append_right (by simpa using hl)]
      simp
theorem zw_push {ca : Nat → ClassId} {bs : Nat} {M M' : zM} (hn : zn M' = zn M + 1) (hx : (zo M).2.1 = 0) (hx' : (zo M').2.1 = 0) (ho : ∀ j, j ≤ zn M → zE ca bs M' j = zE ca bs M j) : zw ca bs M ++ [(bs + (zn M + 1), zE ca bs M' (zn M + 1))] = zw ca bs M' := by
  have e : zx ca bs M = [] := by unfold zx; rw [hx]; rfl
  have e' : zx ca bs M' = [] := by unfold zx; rw [hx']; rfl
  simp only [zw]
  rw [e, e', List.append_nil, List.append_nil, hn, List.range_succ, List.map_append, List.map_singleton]
  congr 1
  apply List.map_congr_left
  intro j hj
  rw [ho (j + 1) (by have := List.mem_range.mp hj; omega)]
/-- the cells that a method may change: those that were there, and those that come -/
def zA (bs n sz : Nat) : Nat → Prop := fun q => (bs < q ∧ q ≤ bs + n) ∨ sz ≤ q
theorem zw_D {ca : Nat → ClassId} {bs sz : Nat} {M : zM} (h : zX0 bs M sz) : va_D (fun _ => True) (zw ca bs M) := by
  refine ⟨fun i j p q hp hq e => ?_, fun k q hq => trivial⟩
  rcases zw_of hp with ⟨h1, rfl⟩ | ⟨a, h1, rfl, rfl⟩
  · rcases zw_of hq with ⟨h2, rfl⟩ | ⟨a', h2, rfl, rfl⟩
    · simp only at e
      omega
    · have := (h.1 a' h2).1
      simp only at e
      omega
  · rcases zw_of hq with ⟨h2, rfl⟩ | ⟨a', h2, rfl, rfl⟩
    · have := (h.1 a h1).1
      simp only at e
      omega
    · simp only at e
      rcases Nat.lt_trichotomy a a' with h3 | h3 | h3
      · have := h.2 a a' h3 h2
        omega
      · rw [h3]
      · have := h.2 a' a h3 h1
        omega
/-- the texts of the throws: class, place, text -/
def zstrs : List (String × Nat × String) := [("PortolanHall", 299, "no such point"), ("PortolanHall", 79, "x, y, name or year is out of range"), ("PortolanHall", 89, "there are reports"), ("PortolanHall", 105, "turn or error is out of range"), ("PortolanHall", 108, "there are all the pilots"), ("PortolanHall", 118, "no such pilot"), ("PortolanHall", 121, "both points are the same"), ("PortolanHall", 123, "there are all the reports"), ("PortolanHall", 133, "reports or year is out of range"), ("PortolanHall", 305, "there are all the charts"), ("PortolanHall", 309, "no such copyist"), ("PortolanHall", 159, "hand is out of range"), ("PortolanHall", 164, "name or as is out of range"), ("PortolanHall", 307, "no such chart"), ("PortolanHall", 173, "way or year is out of range"), ("PortolanHall", 192, "the same chart, or the stretch ends ahead of its start"), ("PortolanHall", 194, "the source is younger"), ("PortolanHall", 200, "the source has a place of the stretch from the chart itself"), ("PortolanHall", 205, "a place would be too far away"), ("PortolanHall", 211, "x or y is out of range"), ("PortolanHall", 214, "there were all the islands"), ("PortolanHall", 301, "no such basin"), ("PortolanHall", 228, "hundredths is out of range"), ("PortolanHall", 237, "the stretch ends ahead of its start"), ("PortolanHall", 303, "no such island"), ("PortolanHall", 242, "no such report"), ("PortolanHall", 252, "what is out of range"), ("PortolanHall", 254, "no such place")]
def zNcs : List (String × String) := []
def zXs : List String := ["java/lang/IndexOutOfBoundsException", "java/lang/IllegalArgumentException", "java/lang/IllegalStateException"]
def zNests : List (String × Nat × MethodName × String) := [("PortolanHall", 18, ⟨"PortolanHall$Pilots", "<init>", "()V"⟩, "PortolanHall"), ("PortolanHall", 25, ⟨"PortolanHall$Log", "<init>", "()V"⟩, "PortolanHall"), ("PortolanHall", 32, ⟨"PortolanHall$Round", "<init>", "()V"⟩, "PortolanHall"), ("PortolanHall", 51, ⟨"PortolanHall$Islands", "<init>", "()V"⟩, "PortolanHall"), ("PortolanHall", 61, ⟨"PortolanHall$Chart", "<init>", "()V"⟩, "PortolanHall"), ("PortolanHall$Copyist", 19, ⟨"PortolanHall", "isName", "(I)Z"⟩, "PortolanHall"), ("PortolanHall$Chart", 63, ⟨"PortolanHall", "isWithin", "(II)Z"⟩, "PortolanHall"), ("PortolanHall$Chart", 52, ⟨"PortolanHall", "firstOf", "(I)I"⟩, "PortolanHall"), ("PortolanHall$Chart", 56, ⟨"PortolanHall", "lastOf", "(I)I"⟩, "PortolanHall")]
def zDec : List MethodName := [⟨"java/lang/RuntimeException", "<init>", "()V"⟩, ⟨"java/lang/RuntimeException", "<init>", "(Ljava/lang/String;)V"⟩, ⟨"java/lang/Exception", "<init>", "()V"⟩, ⟨"java/lang/Exception", "<init>", "(Ljava/lang/String;)V"⟩, ⟨"java/lang/Throwable", "<init>", "()V"⟩, ⟨"java/lang/Throwable", "<init>", "(Ljava/lang/String;)V"⟩]
def zStr (q : String × Nat × String) (U : State) : Prop := ∃ a : Nat, vk_R q.1 q.2.1 q.2.2 a U
/-- what stays as it was at the start: two statics, the texts, what isn't castable, the script -/
def zEv (b L : Nat) (xs : Nat → Int32) (A : Nat → Prop) (U : State) (H : Heap) : Prop :=
  vx_Zq Bundle.tN "UNASSIGNED_STACK" Bundle.steD A U H ∧ vx_Zq Bundle.tN "SUPPRESSED_SENTINEL" Bundle.listD A U H ∧ (∀ q ∈ zstrs, zStr q U) ∧ (∀ q ∈ zNcs, va_Nc q.1 q.2 U) ∧ va_X b L xs U H ∧ b < H.size ∧ va_AO RX0 U ∧ va_AO RX2 U ∧ (∀ X ∈ zXs, va_Nw (.castable X X) U) ∧ (∀ q ∈ zNests, va_Nw (.methodLinkNest q.1 q.2.1 q.2.2.1 q.2.2.2) U) ∧ ∀ y ∈ zDec, va_Nw (.declares y) U
theorem zEv.moved {b L : Nat} {xs : Nat → Int32} {A : Nat → Prop} {u U : State} {H : Heap} (hW : u.WarmedH U.vm) (h : zEv b L xs A u H) : zEv b L xs A U H := by
  obtain ⟨h1, h2, h3, h4, h5, h6, h7, h8, h9, h10, h11⟩ := h
  exact ⟨vx_Zq.moved hW.alike h1, vx_Zq.moved hW.alike h2, fun q hq => by obtain ⟨a, ha⟩ := h3 q hq; exact ⟨a, vk_R.warm hW ha⟩, fun q hq => va_Nc.moved hW.alike (h4 q hq), va_X.moved hW.alike h5, h6, va_AO.moved hW.alike h7, va_AO.moved hW.alike h8, fun X hX => va_Nw.warmC hW (h9 X hX), fun q hq => va_Nw.warmM hW (h10 q hq), fun y hy => va_Nw.warmD hW (h11 y hy)⟩
theorem zEv.same {b L : Nat} {xs : Nat → Int32} {A : Nat → Prop} {u U : State} {H : Heap} (hv : U.vm = u.vm) (h : zEv b L xs A u H) : zEv b L xs A U H := by
  have hA : u.vm.Alike U.vm := by rw [hv]; exact Vm.Alike.refl u.vm
  obtain ⟨h1, h2, h3, h4, h5, h6, h7, h8, h9, h10, h11⟩ := h
  exact ⟨vx_Zq.moved hA h1, vx_Zq.moved hA h2, fun q hq => by obtain ⟨a, ha⟩ := h3 q hq; exact ⟨a, vk_R.same hv ha⟩, fun q hq => va_Nc.moved hA (h4 q hq), va_X.moved hA h5, h6, va_AO.moved hA h7, va_AO.moved hA h8, fun X hX => va_Nw.same rfl hv.symm (h9 X hX), fun q hq => va_Nw.same rfl hv.symm (h10 q hq), fun y hy => va_Nw.same rfl hv.symm (h11 y hy)⟩
theorem zEv.kept {b L : Nat} {xs : Nat → Int32} {A B : Nat → Prop} {U : State} {H H1 : Heap} (h : zEv b L xs A U H) (hz : H.size ≤ H1.size) (hq : ∀ a : Nat, a < H.size → ¬ A a → H1[a]? = H[a]?) (hb : ¬ A b) (hAB : ∀ q, B q → A q) : zEv b L xs B U H1 := by
  obtain ⟨h1, h2, h3, h4, h5, h6, h7, h8, h9, h10, h11⟩ := h
  exact ⟨(h1.kept hq).narrow hAB, (h2.kept hq).narrow hAB, h3, h4, h5.kept (hq b h6 hb), Nat.lt_of_lt_of_le h6 hz, h7, h8, h9, h10, h11⟩
/-- the locals: what isn't null is there -/
def zL (bs b : Nat) (ls : List Value) (lr : Array Slot) (nL : Nat) : Prop := lr.size = nL ∧ lv_wf lr ∧ ls.length = nL ∧ (∀ v ∈ ls, v.category = 1) ∧ ∀ (i : Nat) (v : Value), ls[i]? = some v → v ≠ .null → lr[i]? = some (.val (ztr bs b v))
theorem ztr_cat {bs b : Nat} {v : Value} : (ztr bs b v).category = v.category := by cases v <;> rfl
def zlv (bs b : Nat) (ls : List Value) : List (Nat × Value) := (List.range ls.length).filterMap (fun i => if ls.getD i .null = .null then none else some (i, ztr bs b (ls.getD i .null)))
theorem zL_has {bs b : Nat} {ls : List Value} {lr : Array Slot} {nL : Nat} (h : zL bs b ls lr nL) : lv_has lr nL (zlv bs b ls) := by
  obtain ⟨h1, h2, h3, h4, h5⟩ := h
  refine ⟨h1, h2, fun q hq => ?_⟩
  simp only [zlv, List.mem_filterMap, List.mem_range] at hq
  obtain ⟨i, hi, hq⟩ := hq
  by_cases hn : ls.getD i .null = .null
  · rw [if_pos hn] at hq; cases hq
  · rw [if_neg hn] at hq
    cases hq
    refine h5 i _ ?_ hn
    rw [List.getD_eq_getElem?_getD, List.getElem?_eq_getElem hi]
    rfl
theorem zL_set {bs b i : Nat} {ls : List Value} {lr lr' : Array Slot} {nL : Nat} {x : Value} (h : zL bs b ls lr nL) (hx : x.category = 1)
    (h' : lv_has lr' nL ((i, ztr bs b x) :: (zlv bs b ls).filter (fun q => !(q.1 == i) && !(q.1 + 1 == i && q.2.category == 2)))) : zL bs b (ls.set i x) lr' nL := by
  obtain ⟨h1, h2, h3, h4, h5⟩ := h
  obtain ⟨g1, g2, g3⟩ := h'
  refine ⟨g1, g2, by rw [List.length_set]; exact h3, fun v hv => ?_, fun j v hj hv => ?_⟩
  · rcases List.mem_or_eq_of_mem_set hv with h | rfl
    · exact h4 v h
    · exact hx
  · by_cases hij : i = j
    · subst hij
      have hl : i < (ls.set i x).length := (List.getElem?_eq_some_iff.mp hj).1
      rw [List.length_set] at hl
      rw [List.getElem?_set_self hl] at hj
      cases hj
      exact g3 _ List.mem_cons_self
    · rw [List.getElem?_set_ne hij] at hj
      refine g3 (j, ztr bs b v) (List.mem_cons_of_mem _ (List.mem_filter.mpr ⟨?_, ?_⟩))
      · have hl : j < ls.length := (List.getElem?_eq_some_iff.mp hj).1
        have he : ls.getD j .null = v := by rw [List.getD_eq_getElem?_getD, hj]; rfl
        simp only [zlv, List.mem_filterMap, List.mem_range]
        exact ⟨j, hl, by rw [he, if_neg hv]⟩
      · have hc : (ztr bs b v).category = 1 := by rw [ztr_cat]; exact h4 v (List.mem_of_getElem? hj)
        simp only [hc]
        simp
        omega
abbrev zO : Type := (Option Value ⊕ String) × zM
def zR (D : va_G) (ca : Nat → ClassId) (bs : Nat) (M : zM) (H : Heap) : Prop := va_P D vwCl (zw ca bs M) H ∧ (zt M = true → H.size = bs + zn M + 1) ∧ bs + zn M < H.size ∧ zX0 bs M H.size
def zPre (E : Nat × (Nat → Int32)) (D : va_G) (ca : Nat → ClassId) (bs b : Nat) (M : zM) (sz : Nat) (U : State) : Prop :=
  U.heap.size = sz ∧ zR D ca bs M U.heap ∧ va_K D vwCl (ztys ca) U ∧ zEv b E.1 E.2 (zA bs (zn M) sz) U U.heap ∧ b ≤ bs
def zQc (D : va_G) (ca : Nat → ClassId) (bs b : Nat) (A : Nat → Prop) (o : zO) : Array Value → State → Outcome → State → Prop := fun _ st oc t => ∃ v : Option Value, o.1 = .inl v ∧ oc = .returned (v.map (ztr bs b)) ∧ zR D ca bs o.2 t.heap ∧ va_F A st t
def zXc (D : va_G) (ca : Nat → ClassId) (bs : Nat) (A : Nat → Prop) (o : zO) : String → State → State → Prop := fun E st t => o.1 = .inr E ∧ zR D ca bs o.2 t.heap ∧ va_F A st t
/-- THE CONTRACT of a method: from these arguments and this memory it comes to this outcome -/
def zCt (E : Nat × (Nat → Int32)) (K : zK) (as : List Value) (M : zM) (o : zO) : Prop := (zn M ≤ zn o.2 ∧ (zn M < zn o.2 → zt M = true)) ∧
  ∀ (l : Launch) (D : va_G) (ca : Nat → ClassId) (bs b : Nat) (sz : Nat), l.stackTraces = false →
    vx_Met l (zKy K) (zws K) (zrm K) (va_Pc (as.map (ztr bs b)) (zPre E D ca bs b M sz)) (zQc D ca bs b (zA bs (zn M) sz) o) (zXc D ca bs (zA bs (zn M) sz) o) (zKm K) (zKs K) (zA bs (zn M) sz)
/-- what a frame of K stands on -/
def zC (E : Nat × (Nat → Int32)) (K : zK) (p : Program) (l : Launch) (R : Room) (s : State) (m : MethodId) (args : Array Value) (meth : Method) (c : Code) (D : va_G) (ca : Nat → ClassId) (bs b : Nat) (n0 : Nat) : Prop :=
  p.tables.exec = Jvm.exec ∧ c.code = zKc K ∧ c.maxLocals = zKl K ∧ s.vm.findClass (zKy K).cls = some m.cls ∧ (∀ w ∈ zG, w.before args s = true) ∧ meth.locks = false ∧ R = zrm K ∧ meth.sig.returnType = zKr K ∧ c.exceptionTable.toList = tableOf (zKh K) ∧ va_K D vwCl (ztys ca) s ∧ zEv b E.1 E.2 (zA bs n0 s.heap.size) s s.heap ∧ l.stackTraces = false ∧ b ≤ bs ∧ bs + n0 < s.heap.size ∧ ((zKy K).name = "<init>" → meth.name = "<init>")
/-- what is to be reached: the law's end, or a method's outcome -/
def zFin (F : Bool) (K : zK) (n0 : Nat) (o : zO) (D : va_G) (ca : Nat → ClassId) (bs b : Nat) (below : List Frame) (args : Array Value) (s : State) : State → Prop := match F with
  | true => lw_Z below args s
  | false => vx_MQ below (zQc D ca bs b (zA bs n0 s.heap.size) o) (zXc D ca bs (zA bs n0 s.heap.size) o) args s (zKm K) (zKs K) (zA bs n0 s.heap.size)
/-- THE JUDGEMENT: from this place of K's code, with these locals, stack and memory, it comes to the end -/
def zV (F : Bool) (E : Nat × (Nat → Int32)) (K : zK) (n0 : Nat) (o : zO) (pc : Nat) (ls sk : List Value) (M : zM) (u us : Nat) : Prop :=
  ∀ (p : Program) (l : Launch) (e : Env) (R : Room) (s : State) (m : MethodId) (args : Array Value) (below : List Frame) (meth : Method) (c : Code) (D : va_G) (ca : Nat → ClassId) (bs b : Nat) (H : Heap) (locs : List Loc) (lr : Array Slot),
    zC E K p l R s m args meth c D ca bs b n0 → zR D ca bs M H → va_S (zA bs n0 s.heap.size) s.heap H locs → (∀ q, bs < q → q ≤ bs + zn M → zA bs n0 s.heap.size q) → n0 ≤ zn M → zL bs b ls lr (zKl K) →
    W p l e R s m args below meth c H locs u us (zFin F K n0 o D ca bs b below args s) (F0 m pc lr (sk.map (ztr bs b)))
section ZR
variable {F : Bool} {E : Nat × (Nat → Int32)} {K : zK} {n0 : Nat} {o : zO} {pc : Nat} {ls sk : List Value} {M : zM} {u us : Nat}
/-- a row that changes neither heap nor locals -/
theorem zgo {pc' : Nat} {sk' : List Value} (h : ∀ (p : Program) (l : Launch) (e : Env) (R : Room) (s : State) (m : MethodId) (args : Array Value) (below : List Frame) (meth : Method) (c : Code) (D : va_G) (ca : Nat → ClassId) (bs b : Nat) (H : Heap) (locs : List Loc) (lr : Array Slot) (Q : State → Prop),
    zC E K p l R s m args meth c D ca bs b n0 → zR D ca bs M H → zL bs b ls lr (zKl K) → W p l e R s m args below meth c H locs u us Q (F0 m pc' lr (sk'.map (ztr bs b))) → W p l e R s m args below meth c H locs u us Q (F0 m pc lr (sk.map (ztr bs b))))
    (k : zV F E K n0 o pc' ls sk' M u us) : zV F E K n0 o pc ls sk M u us :=
  fun p l e R s m args below meth c D ca bs b H locs lr hC hR hS hA hn hL => h p l e R s m args below meth c D ca bs b H locs lr _ hC hR hL (k p l e R s m args below meth c D ca bs b H locs lr hC hR hS hA hn hL)
theorem z_iconst {n : Int} (v : Int32) (hv : Int32.ofInt n = v) (d : decode (zKc K) pc = .ok (.iconst n, 1))
    (k : zV F E K n0 o (pc + 1) ls (.int v :: sk) M u us) : zV F E K n0 o pc ls (sk) M u us := zgo (fun _ _ _ _ _ _ _ _ _ _ _ _ _ _ _ _ _ _ hC _ hL kk => lv_iconst hC.1 hC.2.1 d hv kk) k
theorem z_bipush {n : Int} (v : Int32) (hv : (Int8.ofInt n).toInt32 = v) (d : decode (zKc K) pc = .ok (.bipush n, 2))
    (k : zV F E K n0 o (pc + 2) ls (.int v :: sk) M u us) : zV F E K n0 o pc ls (sk) M u us := zgo (fun _ _ _ _ _ _ _ _ _ _ _ _ _ _ _ _ _ _ hC _ hL kk => lv_bipush hC.1 hC.2.1 d hv kk) k
theorem z_sipush {n : Int} (v : Int32) (hv : (Int16.ofInt n).toInt32 = v) (d : decode (zKc K) pc = .ok (.sipush n, 3))
    (k : zV F E K n0 o (pc + 3) ls (.int v :: sk) M u us) : zV F E K n0 o pc ls (sk) M u us := zgo (fun _ _ _ _ _ _ _ _ _ _ _ _ _ _ _ _ _ _ hC _ hL kk => lv_sipush hC.1 hC.2.1 d hv kk) k
theorem z_lconst {n : Fin 2} (v : Int64) (hv : Int64.ofNat (n : Nat) = v) (d : decode (zKc K) pc = .ok (.lconst n, 1))
    (k : zV F E K n0 o (pc + 1) ls (.long v :: sk) M u us) : zV F E K n0 o pc ls (sk) M u us := zgo (fun _ _ _ _ _ _ _ _ _ _ _ _ _ _ _ _ _ _ hC _ hL kk => lv_lconst hC.1 hC.2.1 d hv kk) k
theorem z_ldc {index : Nat} (v : Int32) (hw : Jvm.Cond.constant (zKy K).cls index v ∈ zG) (d : decode (zKc K) pc = .ok (.ldc index, 2))
    (k : zV F E K n0 o (pc + 2) ls (.int v :: sk) M u us) : zV F E K n0 o pc ls (sk) M u us := zgo (fun _ _ _ _ _ _ _ _ _ _ _ _ _ _ _ _ _ _ hC _ hL kk => W.ldc hC.1 hC.2.1 hC.2.2.2.1 (hC.2.2.2.2.1 _ hw) rfl d kk) k
theorem z_iload_n {k4 : Fin 4} {i : Nat} {x : Int32} (hi : (k4 : Nat) = i) (hl : ls[i]? = some (.int x)) (d : decode (zKc K) pc = .ok (.iload_n k4, 1))
    (k : zV F E K n0 o (pc + 1) ls (.int x :: sk) M u us) : zV F E K n0 o pc ls (sk) M u us := zgo (fun _ _ _ _ _ _ _ _ _ _ _ _ _ _ _ _ _ _ hC _ hL kk => lv_iload_n hC.1 hC.2.1 d hi (hL.2.2.2.2 i _ hl (fun h => by cases h)) kk) k
theorem z_iload {i : Nat} {x : Int32} (hl : ls[i]? = some (.int x)) (d : decode (zKc K) pc = .ok (.iload i, 2))
    (k : zV F E K n0 o (pc + 2) ls (.int x :: sk) M u us) : zV F E K n0 o pc ls (sk) M u us := zgo (fun _ _ _ _ _ _ _ _ _ _ _ _ _ _ _ _ _ _ hC _ hL kk => lv_iload hC.1 hC.2.1 d (hL.2.2.2.2 i _ hl (fun h => by cases h)) kk) k
theorem z_aload_n {k4 : Fin 4} {i : Nat} {x : Nat} (hi : (k4 : Nat) = i) (hl : ls[i]? = some (.ref x)) (d : decode (zKc K) pc = .ok (.aload_n k4, 1))
    (k : zV F E K n0 o (pc + 1) ls (.ref x :: sk) M u us) : zV F E K n0 o pc ls (sk) M u us := zgo (fun _ _ _ _ _ _ _ _ _ _ _ _ _ _ _ _ _ _ hC _ hL kk => lv_aload_n hC.1 hC.2.1 d hi (hL.2.2.2.2 i _ hl (fun h => by cases h)) kk) k
theorem z_aload {i : Nat} {x : Nat} (hl : ls[i]? = some (.ref x)) (d : decode (zKc K) pc = .ok (.aload i, 2))
    (k : zV F E K n0 o (pc + 2) ls (.ref x :: sk) M u us) : zV F E K n0 o pc ls (sk) M u us := zgo (fun _ _ _ _ _ _ _ _ _ _ _ _ _ _ _ _ _ _ hC _ hL kk => lv_aload hC.1 hC.2.1 d (hL.2.2.2.2 i _ hl (fun h => by cases h)) kk) k
theorem z_iadd {x y : Int32} (d : decode (zKc K) pc = .ok (.iadd, 1))
    (k : zV F E K n0 o (pc + 1) ls (.int (x + y) :: sk) M u us) : zV F E K n0 o pc ls (.int y :: .int x :: sk) M u us := zgo (fun _ _ _ _ _ _ _ _ _ _ _ _ _ _ _ _ _ _ hC _ hL kk => lv_iadd hC.1 hC.2.1 d kk) k
theorem z_isub {x y : Int32} (d : decode (zKc K) pc = .ok (.isub, 1))
    (k : zV F E K n0 o (pc + 1) ls (.int (x - y) :: sk) M u us) : zV F E K n0 o pc ls (.int y :: .int x :: sk) M u us := zgo (fun _ _ _ _ _ _ _ _ _ _ _ _ _ _ _ _ _ _ hC _ hL kk => lv_isub hC.1 hC.2.1 d kk) k
theorem z_imul {x y : Int32} (d : decode (zKc K) pc = .ok (.imul, 1))
    (k : zV F E K n0 o (pc + 1) ls (.int (x * y) :: sk) M u us) : zV F E K n0 o pc ls (.int y :: .int x :: sk) M u us := zgo (fun _ _ _ _ _ _ _ _ _ _ _ _ _ _ _ _ _ _ hC _ hL kk => lv_imul hC.1 hC.2.1 d kk) k
theorem z_iand {x y : Int32} (d : decode (zKc K) pc = .ok (.iand, 1))
    (k : zV F E K n0 o (pc + 1) ls (.int (x &&& y) :: sk) M u us) : zV F E K n0 o pc ls (.int y :: .int x :: sk) M u us := zgo (fun _ _ _ _ _ _ _ _ _ _ _ _ _ _ _ _ _ _ hC _ hL kk => lv_iand hC.1 hC.2.1 d kk) k
theorem z_idiv {x y : Int32} (hne : ¬ y = 0) (d : decode (zKc K) pc = .ok (.idiv, 1))
    (k : zV F E K n0 o (pc + 1) ls (.int (x / y) :: sk) M u us) : zV F E K n0 o pc ls (.int y :: .int x :: sk) M u us := zgo (fun _ _ _ _ _ _ _ _ _ _ _ _ _ _ _ _ _ _ hC _ hL kk => lv_idiv hC.1 hC.2.1 d hne kk) k
theorem z_irem {x y : Int32} (hne : ¬ y = 0) (d : decode (zKc K) pc = .ok (.irem, 1))
    (k : zV F E K n0 o (pc + 1) ls (.int (x - x / y * y) :: sk) M u us) : zV F E K n0 o pc ls (.int y :: .int x :: sk) M u us := zgo (fun _ _ _ _ _ _ _ _ _ _ _ _ _ _ _ _ _ _ hC _ hL kk => lv_irem hC.1 hC.2.1 d hne kk) k
theorem z_ior {x y : Int32} (d : decode (zKc K) pc = .ok (.ior, 1))
    (k : zV F E K n0 o (pc + 1) ls (.int (x ||| y) :: sk) M u us) : zV F E K n0 o pc ls (.int y :: .int x :: sk) M u us := zgo (fun _ _ _ _ _ _ _ _ _ _ _ _ _ _ _ _ _ _ hC _ hL kk => lv_ior hC.1 hC.2.1 d kk) k
theorem z_ishl {x y : Int32} (d : decode (zKc K) pc = .ok (.ishl, 1))
    (k : zV F E K n0 o (pc + 1) ls (.int (x <<< (y &&& 31)) :: sk) M u us) : zV F E K n0 o pc ls (.int y :: .int x :: sk) M u us := zgo (fun _ _ _ _ _ _ _ _ _ _ _ _ _ _ _ _ _ _ hC _ hL kk => lv_ishl hC.1 hC.2.1 d kk) k
theorem z_ishr {x y : Int32} (d : decode (zKc K) pc = .ok (.ishr, 1))
    (k : zV F E K n0 o (pc + 1) ls (.int (x >>> (y &&& 31)) :: sk) M u us) : zV F E K n0 o pc ls (.int y :: .int x :: sk) M u us := zgo (fun _ _ _ _ _ _ _ _ _ _ _ _ _ _ _ _ _ _ hC _ hL kk => lv_ishr hC.1 hC.2.1 d kk) k
theorem z_ineg {x : Int32} (d : decode (zKc K) pc = .ok (.ineg, 1))
    (k : zV F E K n0 o (pc + 1) ls (.int (-x) :: sk) M u us) : zV F E K n0 o pc ls (.int x :: sk) M u us := zgo (fun _ _ _ _ _ _ _ _ _ _ _ _ _ _ _ _ _ _ hC _ hL kk => lv_ineg hC.1 hC.2.1 d kk) k
theorem z_dup {v : Value} (hv : v.category = 1) (d : decode (zKc K) pc = .ok (.dup, 1))
    (k : zV F E K n0 o (pc + 1) ls (v :: v :: sk) M u us) : zV F E K n0 o pc ls (v :: sk) M u us := zgo (fun _ _ _ _ _ _ _ _ _ _ _ _ _ _ _ _ _ _ hC _ hL kk => lv_dup hC.1 hC.2.1 d (ztr_cat.trans hv) kk) k
theorem z_dup2 {v w : Value} (hv : v.category = 1) (hw : w.category = 1) (d : decode (zKc K) pc = .ok (.dup2, 1))
    (k : zV F E K n0 o (pc + 1) ls (v :: w :: v :: w :: sk) M u us) : zV F E K n0 o pc ls (v :: w :: sk) M u us := zgo (fun _ _ _ _ _ _ _ _ _ _ _ _ _ _ _ _ _ _ hC _ hL kk => lv_dup2_11 hC.1 hC.2.1 d (ztr_cat.trans hv) (ztr_cat.trans hw) kk) k
theorem z_i2l {x : Int32} (d : decode (zKc K) pc = .ok (.i2l, 1))
    (k : zV F E K n0 o (pc + 1) ls (.long x.toInt64 :: sk) M u us) : zV F E K n0 o pc ls (.int x :: sk) M u us := zgo (fun _ _ _ _ _ _ _ _ _ _ _ _ _ _ _ _ _ _ hC _ hL kk => lv_i2l hC.1 hC.2.1 d rfl kk) k
theorem z_lcmp {x y : Int64} (d : decode (zKc K) pc = .ok (.lcmp, 1))
    (k : zV F E K n0 o (pc + 1) ls (.int (lg_cmp x y) :: sk) M u us) : zV F E K n0 o pc ls (.long y :: .long x :: sk) M u us := zgo (fun _ _ _ _ _ _ _ _ _ _ _ _ _ _ _ _ _ _ hC _ hL kk => W.lcmp hC.1 hC.2.1 d kk) k
theorem z_goto {off : Int} (tgt : Nat) (ht : (pc : Int) + off = (tgt : Int)) (d : decode (zKc K) pc = .ok (.goto off, 3))
    (k : zV F E K n0 o tgt ls sk M u us) : zV F E K n0 o pc ls sk M u us := zgo (fun _ _ _ _ _ _ _ _ _ _ _ _ _ _ _ _ _ _ hC _ _ kk => lv_goto hC.1 hC.2.1 d ht kk) k
theorem z_if_eq {x : Int32} {off : Int} (tgt : Nat) (ht : (pc : Int) + off = (tgt : Int)) (d : decode (zKc K) pc = .ok (.ifCond .eq off, 3))
    (kt : x = 0 → zV F E K n0 o tgt ls sk M u us) (kf : ¬ x = 0 → zV F E K n0 o (pc + 3) ls sk M u us) : zV F E K n0 o pc ls (.int x :: sk) M u us :=
  fun p l e R s m args below meth c D ca bs b H locs lr hC hR hS hA hn hL => lv_if_eq hC.1 hC.2.1 d ht (fun h => kt h p l e R s m args below meth c D ca bs b H locs lr hC hR hS hA hn hL) (fun h => kf h p l e R s m args below meth c D ca bs b H locs lr hC hR hS hA hn hL)
theorem z_icmp_eq {x y : Int32} {off : Int} (tgt : Nat) (ht : (pc : Int) + off = (tgt : Int)) (d : decode (zKc K) pc = .ok (.if_icmp .eq off, 3))
    (kt : x = y → zV F E K n0 o tgt ls sk M u us) (kf : ¬ x = y → zV F E K n0 o (pc + 3) ls sk M u us) : zV F E K n0 o pc ls (.int y :: .int x :: sk) M u us :=
  fun p l e R s m args below meth c D ca bs b H locs lr hC hR hS hA hn hL => lv_icmp_eq hC.1 hC.2.1 d ht (fun h => kt h p l e R s m args below meth c D ca bs b H locs lr hC hR hS hA hn hL) (fun h => kf h p l e R s m args below meth c D ca bs b H locs lr hC hR hS hA hn hL)
theorem z_if_ne {x : Int32} {off : Int} (tgt : Nat) (ht : (pc : Int) + off = (tgt : Int)) (d : decode (zKc K) pc = .ok (.ifCond .ne off, 3))
    (kt : ¬ x = 0 → zV F E K n0 o tgt ls sk M u us) (kf : x = 0 → zV F E K n0 o (pc + 3) ls sk M u us) : zV F E K n0 o pc ls (.int x :: sk) M u us :=
  fun p l e R s m args below meth c D ca bs b H locs lr hC hR hS hA hn hL => lv_if_ne hC.1 hC.2.1 d ht (fun h => kt h p l e R s m args below meth c D ca bs b H locs lr hC hR hS hA hn hL) (fun h => kf h p l e R s m args below meth c D ca bs b H locs lr hC hR hS hA hn hL)
theorem z_icmp_ne {x y : Int32} {off : Int} (tgt : Nat) (ht : (pc : Int) + off = (tgt : Int)) (d : decode (zKc K) pc = .ok (.if_icmp .ne off, 3))
    (kt : ¬ x = y → zV F E K n0 o tgt ls sk M u us) (kf : x = y → zV F E K n0 o (pc + 3) ls sk M u us) : zV F E K n0 o pc ls (.int y :: .int x :: sk) M u us :=
  fun p l e R s m args below meth c D ca bs b H locs lr hC hR hS hA hn hL => lv_icmp_ne hC.1 hC.2.1 d ht (fun h => kt h p l e R s m args below meth c D ca bs b H locs lr hC hR hS hA hn hL) (fun h => kf h p l e R s m args below meth c D ca bs b H locs lr hC hR hS hA hn hL)
theorem z_if_lt {x : Int32} {off : Int} (tgt : Nat) (ht : (pc : Int) + off = (tgt : Int)) (d : decode (zKc K) pc = .ok (.ifCond .lt off, 3))
    (kt : x < 0 → zV F E K n0 o tgt ls sk M u us) (kf : ¬ x < 0 → zV F E K n0 o (pc + 3) ls sk M u us) : zV F E K n0 o pc ls (.int x :: sk) M u us :=
  fun p l e R s m args below meth c D ca bs b H locs lr hC hR hS hA hn hL => lv_if_lt hC.1 hC.2.1 d ht (fun h => kt h p l e R s m args below meth c D ca bs b H locs lr hC hR hS hA hn hL) (fun h => kf h p l e R s m args below meth c D ca bs b H locs lr hC hR hS hA hn hL)
theorem z_icmp_lt {x y : Int32} {off : Int} (tgt : Nat) (ht : (pc : Int) + off = (tgt : Int)) (d : decode (zKc K) pc = .ok (.if_icmp .lt off, 3))
    (kt : x < y → zV F E K n0 o tgt ls sk M u us) (kf : ¬ x < y → zV F E K n0 o (pc + 3) ls sk M u us) : zV F E K n0 o pc ls (.int y :: .int x :: sk) M u us :=
  fun p l e R s m args below meth c D ca bs b H locs lr hC hR hS hA hn hL => lv_icmp_lt hC.1 hC.2.1 d ht (fun h => kt h p l e R s m args below meth c D ca bs b H locs lr hC hR hS hA hn hL) (fun h => kf h p l e R s m args below meth c D ca bs b H locs lr hC hR hS hA hn hL)
theorem z_if_ge {x : Int32} {off : Int} (tgt : Nat) (ht : (pc : Int) + off = (tgt : Int)) (d : decode (zKc K) pc = .ok (.ifCond .ge off, 3))
    (kt : 0 ≤ x → zV F E K n0 o tgt ls sk M u us) (kf : ¬ 0 ≤ x → zV F E K n0 o (pc + 3) ls sk M u us) : zV F E K n0 o pc ls (.int x :: sk) M u us :=
  fun p l e R s m args below meth c D ca bs b H locs lr hC hR hS hA hn hL => lv_if_ge hC.1 hC.2.1 d ht (fun h => kt h p l e R s m args below meth c D ca bs b H locs lr hC hR hS hA hn hL) (fun h => kf h p l e R s m args below meth c D ca bs b H locs lr hC hR hS hA hn hL)
theorem z_icmp_ge {x y : Int32} {off : Int} (tgt : Nat) (ht : (pc : Int) + off = (tgt : Int)) (d : decode (zKc K) pc = .ok (.if_icmp .ge off, 3))
    (kt : y ≤ x → zV F E K n0 o tgt ls sk M u us) (kf : ¬ y ≤ x → zV F E K n0 o (pc + 3) ls sk M u us) : zV F E K n0 o pc ls (.int y :: .int x :: sk) M u us :=
  fun p l e R s m args below meth c D ca bs b H locs lr hC hR hS hA hn hL => lv_icmp_ge hC.1 hC.2.1 d ht (fun h => kt h p l e R s m args below meth c D ca bs b H locs lr hC hR hS hA hn hL) (fun h => kf h p l e R s m args below meth c D ca bs b H locs lr hC hR hS hA hn hL)
theorem z_if_gt {x : Int32} {off : Int} (tgt : Nat) (ht : (pc : Int) + off = (tgt : Int)) (d : decode (zKc K) pc = .ok (.ifCond .gt off, 3))
    (kt : 0 < x → zV F E K n0 o tgt ls sk M u us) (kf : ¬ 0 < x → zV F E K n0 o (pc + 3) ls sk M u us) : zV F E K n0 o pc ls (.int x :: sk) M u us :=
  fun p l e R s m args below meth c D ca bs b H locs lr hC hR hS hA hn hL => lv_if_gt hC.1 hC.2.1 d ht (fun h => kt h p l e R s m args below meth c D ca bs b H locs lr hC hR hS hA hn hL) (fun h => kf h p l e R s m args below meth c D ca bs b H locs lr hC hR hS hA hn hL)
theorem z_icmp_gt {x y : Int32} {off : Int} (tgt : Nat) (ht : (pc : Int) + off = (tgt : Int)) (d : decode (zKc K) pc = .ok (.if_icmp .gt off, 3))
    (kt : y < x → zV F E K n0 o tgt ls sk M u us) (kf : ¬ y < x → zV F E K n0 o (pc + 3) ls sk M u us) : zV F E K n0 o pc ls (.int y :: .int x :: sk) M u us :=
  fun p l e R s m args below meth c D ca bs b H locs lr hC hR hS hA hn hL => lv_icmp_gt hC.1 hC.2.1 d ht (fun h => kt h p l e R s m args below meth c D ca bs b H locs lr hC hR hS hA hn hL) (fun h => kf h p l e R s m args below meth c D ca bs b H locs lr hC hR hS hA hn hL)
theorem z_if_le {x : Int32} {off : Int} (tgt : Nat) (ht : (pc : Int) + off = (tgt : Int)) (d : decode (zKc K) pc = .ok (.ifCond .le off, 3))
    (kt : x ≤ 0 → zV F E K n0 o tgt ls sk M u us) (kf : ¬ x ≤ 0 → zV F E K n0 o (pc + 3) ls sk M u us) : zV F E K n0 o pc ls (.int x :: sk) M u us :=
  fun p l e R s m args below meth c D ca bs b H locs lr hC hR hS hA hn hL => lv_if_le hC.1 hC.2.1 d ht (fun h => kt h p l e R s m args below meth c D ca bs b H locs lr hC hR hS hA hn hL) (fun h => kf h p l e R s m args below meth c D ca bs b H locs lr hC hR hS hA hn hL)
theorem z_icmp_le {x y : Int32} {off : Int} (tgt : Nat) (ht : (pc : Int) + off = (tgt : Int)) (d : decode (zKc K) pc = .ok (.if_icmp .le off, 3))
    (kt : x ≤ y → zV F E K n0 o tgt ls sk M u us) (kf : ¬ x ≤ y → zV F E K n0 o (pc + 3) ls sk M u us) : zV F E K n0 o pc ls (.int y :: .int x :: sk) M u us :=
  fun p l e R s m args below meth c D ca bs b H locs lr hC hR hS hA hn hL => lv_icmp_le hC.1 hC.2.1 d ht (fun h => kt h p l e R s m args below meth c D ca bs b H locs lr hC hR hS hA hn hL) (fun h => kf h p l e R s m args below meth c D ca bs b H locs lr hC hR hS hA hn hL)
theorem z_istore_n {k4 : Fin 4} {i : Nat} {x : Int32} {ls1 : List Value} (hi : (k4 : Nat) = i) (hn : i < zKl K) (hl : ls.set i (.int x) = ls1) (d : decode (zKc K) pc = .ok (.istore_n k4, 1))
    (k : zV F E K n0 o (pc + 1) ls1 sk M u us) : zV F E K n0 o pc ls (.int x :: sk) M u us :=
  fun p l e R s m args below meth c D ca bs b H locs lr hC hR hS hA hn0 hL => lv_istore_n (nL := zKl K) hC.1 hC.2.1 d hi (zL_has hL) hn rfl (fun lr1 h1 => k p l e R s m args below meth c D ca bs b H locs lr1 hC hR hS hA hn0 (hl ▸ zL_set (x := .int x) hL rfl h1))
theorem z_istore {i : Nat} {x : Int32} {ls1 : List Value} (hn : i < zKl K) (hl : ls.set i (.int x) = ls1) (d : decode (zKc K) pc = .ok (.istore i, 2))
    (k : zV F E K n0 o (pc + 2) ls1 sk M u us) : zV F E K n0 o pc ls (.int x :: sk) M u us :=
  fun p l e R s m args below meth c D ca bs b H locs lr hC hR hS hA hn0 hL => lv_istore (nL := zKl K) hC.1 hC.2.1 d (zL_has hL) hn rfl (fun lr1 h1 => k p l e R s m args below meth c D ca bs b H locs lr1 hC hR hS hA hn0 (hl ▸ zL_set (x := .int x) hL rfl h1))
theorem z_astore_n {k4 : Fin 4} {i : Nat} {x : Nat} {ls1 : List Value} (hi : (k4 : Nat) = i) (hn : i < zKl K) (hl : ls.set i (.ref x) = ls1) (d : decode (zKc K) pc = .ok (.astore_n k4, 1))
    (k : zV F E K n0 o (pc + 1) ls1 sk M u us) : zV F E K n0 o pc ls (.ref x :: sk) M u us :=
  fun p l e R s m args below meth c D ca bs b H locs lr hC hR hS hA hn0 hL => lv_astore_n (nL := zKl K) hC.1 hC.2.1 d hi (zL_has hL) hn rfl (fun lr1 h1 => k p l e R s m args below meth c D ca bs b H locs lr1 hC hR hS hA hn0 (hl ▸ zL_set (x := .ref x) hL rfl h1))
theorem z_astore {i : Nat} {x : Nat} {ls1 : List Value} (hn : i < zKl K) (hl : ls.set i (.ref x) = ls1) (d : decode (zKc K) pc = .ok (.astore i, 2))
    (k : zV F E K n0 o (pc + 2) ls1 sk M u us) : zV F E K n0 o pc ls (.ref x :: sk) M u us :=
  fun p l e R s m args below meth c D ca bs b H locs lr hC hR hS hA hn0 hL => lv_astore (nL := zKl K) hC.1 hC.2.1 d (zL_has hL) hn rfl (fun lr1 h1 => k p l e R s m args below meth c D ca bs b H locs lr1 hC hR hS hA hn0 (hl ▸ zL_set (x := .ref x) hL rfl h1))
theorem z_iinc {i : Nat} {n : Int} {x : Int32} {ls1 : List Value} (v : Int32) (hg : ls[i]? = some (.int x)) (hv : x + Int32.ofInt n = v) (hn : i < zKl K) (hl : ls.set i (.int v) = ls1) (d : decode (zKc K) pc = .ok (.iinc i n, 3))
    (k : zV F E K n0 o (pc + 3) ls1 sk M u us) : zV F E K n0 o pc ls sk M u us := by
  intro p l e R s m args below meth c D ca bs b H locs lr hC hR hS hA hn0 hL
  have h9 : (i, Value.int x) ∈ zlv bs b ls := by
    have hlt : i < ls.length := (List.getElem?_eq_some_iff.mp hg).1
    simp only [zlv, List.mem_filterMap, List.mem_range]
    exact ⟨i, hlt, by rw [List.getD_eq_getElem?_getD, hg]; rfl⟩
  obtain ⟨q, hq⟩ := List.getElem?_of_mem h9
  exact lv_iinc (nL := zKl K) (k := q) hC.1 hC.2.1 d (zL_has hL) hq hv hn rfl (fun lr1 h1 => k p l e R s m args below meth c D ca bs b H locs lr1 hC hR hS hA hn0 (hl ▸ zL_set (x := .int v) hL rfl h1))
end ZR
