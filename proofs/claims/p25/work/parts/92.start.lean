/-! the start: what the tables and the Statement give (printed by wip/p25/gen_v.py) -/
theorem zt_in {w : Cond} (i : Nat) (h : tables_1[i]? = some w) : w ∈ lw_tbl := List.mem_append_right _ (List.mem_of_getElem? h)
theorem zt_ins (ps : List Nat) {ws : List Cond} (hp : ws = ps.filterMap (fun i => tables_1[i]?)) : ∀ w ∈ ws, w ∈ lw_tbl := by
  intro w hw
  rw [hp] at hw
  obtain ⟨i, -, h⟩ := List.mem_filterMap.mp hw
  exact zt_in i h
theorem zs_strs : ∀ w ∈ zstrs.map (fun q => Cond.stringRef q.1 q.2.1 q.2.2), w ∈ lw_tbl := zt_ins [259, 304, 320, 331, 332, 337, 338, 339, 344, 349, 393, 394, 399, 408, 409, 476, 477, 486, 495, 426, 427, 506, 507, 436, 450, 455, 538, 544] (by decide +kernel)
theorem zs_nests : ∀ w ∈ zNests.map (fun q => Cond.methodLinkNest q.1 q.2.1 q.2.2.1 q.2.2.2), w ∈ lw_tbl := zt_ins [50, 69, 96, 116, 152, 414, 494, 512, 515] (by decide +kernel)
theorem zs_dec : ∀ w ∈ zDec.map (fun y => Cond.declares y), w ∈ lw_tbl := zt_ins [221, 222, 223, 224, 225, 226] (by decide +kernel)
theorem zs_xs : ∀ w ∈ zXs.map (fun X => Cond.castable X X), w ∈ lw_tbl := zt_ins [220, 297, 313] (by decide +kernel)
theorem zs_lays : Cond.laysStatic Bundle.tN "UNASSIGNED_STACK" Bundle.steD ∈ lw_tbl ∧ Cond.laysStatic Bundle.tN "SUPPRESSED_SENTINEL" Bundle.listD ∈ lw_tbl ∧ Cond.initialized Bundle.tN ∈ lw_tbl ∧ Cond.arrayOver (.object RX0) ∈ lw_tbl ∧ Cond.arrayOver (.object RX2) ∈ lw_tbl := ⟨zt_in 245 (by decide +kernel), zt_in 247 (by decide +kernel), zt_in 9 (by decide +kernel), zt_in 113 (by decide +kernel), zt_in 111 (by decide +kernel)⟩
theorem zs_nc {s : State} {b : Nat} (hgv : (Jvm.Cond.and given_1 narrow_1).before #[Value.ref b] s = true) : (Cond.isRef (.static Bundle.tN "UNASSIGNED_STACK" Bundle.steD)).before #[Value.ref b] s = true ∧ (Cond.isRef (.static Bundle.tN "SUPPRESSED_SENTINEL" Bundle.listD)).before #[Value.ref b] s = true ∧ ∀ q ∈ zNcs, va_Nc q.1 q.2 s := by
  have hs := flat_of_before _ hgv
  refine ⟨hs _ (by decide +kernel), hs _ (by decide +kernel), fun q hq => ?_⟩
  have h : ∀ q ∈ zNcs, Cond.not (.castable q.1 q.2) ∈ flatC (Jvm.Cond.and given_1 narrow_1) := by decide +kernel
  exact va_Nc.of (hs _ (h q hq))
theorem zEv_start {s : State} {b L : Nat} {xs : Nat → Int32} {cx : ClassId} (hcx : s.vm.findClass RX7 = some cx) (hts : ∀ w ∈ lw_tbl, w.before #[Value.ref b] s = true) (hX : va_X b L xs s s.heap) (hbl : b < s.heap.size) (hgv : (Jvm.Cond.and given_1 narrow_1).before #[Value.ref b] s = true) : zEv b L xs (zA (s.heap.size - 1) 0 s.heap.size) s s.heap := by
  have hA : ∀ a : Nat, a < s.heap.size → ¬ zA (s.heap.size - 1) 0 s.heap.size a := fun a ha h => by
    rcases h with ⟨h1, h2⟩ | h
    · omega
    · omega
  obtain ⟨n1, n2, n3⟩ := zs_nc hgv
  obtain ⟨t1, t2, t3, t4, t5⟩ := zs_lays
  refine ⟨vx_Zqof (hts _ t1) (hts _ t3) n1 hA, vx_Zqof (hts _ t2) (hts _ t3) n2 hA, fun q hq => ?_, n3, hX, hbl, va_AO.of (hts _ t4), va_AO.of (hts _ t5), fun X hX9 => va_Nw.of rfl (hts _ (zs_xs _ (List.mem_map_of_mem hX9))), fun q hq => va_Nw.of rfl (hts _ (zs_nests _ (List.mem_map_of_mem (f := fun q => Cond.methodLinkNest q.1 q.2.1 q.2.2.1 q.2.2.2) hq))), fun y hy => va_Nw.of rfl (hts _ (zs_dec _ (List.mem_map_of_mem hy)))⟩
  have hw := hts _ (zs_strs _ (List.mem_map_of_mem (f := fun q => Cond.stringRef q.1 q.2.1 q.2.2) hq))
  have hc7 : q.1 = RX7 := (by decide +kernel : ∀ q ∈ zstrs, q.1 = RX7) q hq
  obtain ⟨-, -, -, sa, -, -, -, -, -, hev⟩ := Cond.stringRef_spec (by rw [hc7]; exact hcx) hw
  exact ⟨sa, vk_R.of hw hev⟩
