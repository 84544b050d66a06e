/-! the start, and the law from its entry (printed by wip/p25/gen_w.py) -/
theorem zK_start {s : State} {b : Nat} (hts : ∀ w ∈ lw_tbl, w.before #[Value.ref b] s = true) : ∃ (D : va_G) (ca : Nat → ClassId), va_K D vwCl (ztys ca) s := by
  have hG : ∀ w ∈ zG, w.before #[Value.ref b] s = true := fun w hw => hts w (zG_tbl hw)
  obtain ⟨c0, i0, k0⟩ := u_known (C := RX0) (T := TX0) (N := 7) (n := 7) hG zu_0 (hts (.instantiable RX0 7) (zt_in 151 (by decide +kernel)))
  obtain ⟨c1, i1, k1⟩ := u_known (C := RX1) (T := TX1) (N := 4) (n := 4) hG zu_1 (hts (.instantiable RX1 4) (zt_in 25 (by decide +kernel)))
  obtain ⟨c2, i2, k2⟩ := u_known (C := RX2) (T := TX2) (N := 2) (n := 2) hG zu_2 (hts (.instantiable RX2 2) (zt_in 137 (by decide +kernel)))
  obtain ⟨c3, i3, k3⟩ := u_known (C := RX3) (T := TX3) (N := 4) (n := 4) hG zu_3 (hts (.instantiable RX3 4) (zt_in 115 (by decide +kernel)))
  obtain ⟨c4, i4, k4⟩ := u_known (C := RX4) (T := TX4) (N := 5) (n := 5) hG zu_4 (hts (.instantiable RX4 5) (zt_in 68 (by decide +kernel)))
  obtain ⟨c5, i5, k5⟩ := u_known (C := RX5) (T := TX5) (N := 3) (n := 3) hG zu_5 (hts (.instantiable RX5 3) (zt_in 49 (by decide +kernel)))
  obtain ⟨c6, i6, k6⟩ := u_known (C := RX6) (T := TX6) (N := 3) (n := 3) hG zu_6 (hts (.instantiable RX6 3) (zt_in 95 (by decide +kernel)))
  obtain ⟨c7, i7, k7⟩ := u_known (C := RX7) (T := TX7) (N := 8) (n := 8) hG zu_7 (hts (.instantiable RX7 8) (zt_in 17 (by decide +kernel)))
  obtain ⟨a0, ka0, co0, p0, q0, r0⟩ := Cond.arrayClass_spec (hts (.arrayClass .int) (zt_in 47 (by decide +kernel)))
  obtain ⟨a1, ka1, co1, p1, q1, r1⟩ := Cond.arrayClass_spec (hts (.arrayClass .boolean) (zt_in 185 (by decide +kernel)))
  obtain ⟨a2, ka2, co2, p2, q2, r2⟩ := Cond.arrayClass_spec (hts (.arrayClass .int) (zt_in 47 (by decide +kernel)))
  obtain ⟨co3, a3, ka3, p3, -, q3, r3, s3⟩ := Cond.arrayOver_spec (hts _ zs_lays.2.2.2.1)
  obtain ⟨co4, a4, ka4, p4, -, q4, r4, s4⟩ := Cond.arrayOver_spec (hts _ zs_lays.2.2.2.2)
  refine ⟨(fun k => [c0, c1, c2, c3, c4, c5, c6, c7].getD k c0, fun k => [i0, i1, i2, i3, i4, i5, i6, i7].getD k i0), fun k => [a0, a1, a2, a3, a4].getD k a0, fun k q hq => ?_, fun k q hq => ?_⟩
  · match k, hq with
    | 0, hq => cases hq; exact k0
    | 1, hq => cases hq; exact k1
    | 2, hq => cases hq; exact k2
    | 3, hq => cases hq; exact k3
    | 4, hq => cases hq; exact k4
    | 5, hq => cases hq; exact k5
    | 6, hq => cases hq; exact k6
    | 7, hq => cases hq; exact k7
    | k + 8, hq => simp [vwCl] at hq
  · match k, hq with
    | 0, hq => cases hq; exact ⟨fun n z => ⟨fun k h => (by simp [arrV] at h), ka0, q0, co0, r0⟩, p0⟩
    | 1, hq => cases hq; exact ⟨fun n z => ⟨fun k h => (by simp [arrV] at h), ka1, q1, co1, r1⟩, p1⟩
    | 2, hq => cases hq; exact ⟨fun n z => ⟨fun k h => (by simp [arrV] at h), ka2, q2, co2, r2⟩, p2⟩
    | 3, hq => cases hq; exact ⟨fun n z => ⟨fun k h => (by simp [arrV] at h), ka3, q3, co3, r3⟩, ka3, co3, q3, r3, p3, s3⟩
    | 4, hq => cases hq; exact ⟨fun n z => ⟨fun k h => (by simp [arrV] at h), ka4, q4, co4, r4⟩, ka4, co4, q4, r4, p4, s4⟩
    | k + 5, hq => simp [ztys] at hq
theorem whole_start9 {p : Program} {e : Env} {s : State} {m : MethodId} {below : List Frame} {meth : Method} {c : Code} (l : Launch) (hflags : l.flags = flags0) {b L : Nat} {xs : Nat → Int32} (hL : L ≤ 260) (C0 : lw_At p s m meth c b L xs) (htab : c.exceptionTable.toList = []) : W p l e room_1 s m #[Value.ref b] below meth c s.heap [] 0 0 (lw_Z below #[Value.ref b] s) (entryFrame m ([Value.ref b] : List Value).toArray 33) := by
  obtain ⟨hx, hb, hr, hml, hown, hts, hX, hbl, hlocks, hgv⟩ := id C0
  obtain ⟨D, ca, hK⟩ := zK_start hts
  have hst9 : l.stackTraces = false := by rw [Launch.stackTraces, hflags]; rfl
  have hcx := (hK.1 7 _ rfl).2.1
  rw [lg_entry_eq]
  obtain ⟨lr, hlr, hLL⟩ := zent_L (bs := s.heap.size - 1) (b := b) (nL := 33) (as := [.ref 0]) (by decide) (fun v hv => by
    cases List.mem_singleton.mp hv
    exact ⟨rfl, fun h => by cases h⟩)
  have hlr2 : (lg_sl ([Value.ref b]) ++ List.replicate (33 - (lg_sl ([Value.ref b])).length) Slot.unset).toArray = lr := hlr
  rw [hlr2]
  have hC : zC (L, xs) kL_law p l room_1 s m #[Value.ref b] meth c D ca (s.heap.size - 1) b 0 :=
    ⟨hx, hb, hml, hown, fun w hw => hts w (zG_tbl hw), hlocks, rfl, hr, htab, hK, zEv_start hcx hts hX hbl hgv, hst9, by omega, by omega, fun h => absurd h (by decide)⟩
  have hR : zR D ca (s.heap.size - 1) (zc (fun _ _ => 0) (fun _ _ => 0) 0) s.heap :=
    ⟨fun i q h => (zw_of h).elim (fun w => absurd w.1 (Nat.not_lt_zero i)) (fun ⟨a, w, _⟩ => absurd w (Nat.not_lt_zero a)), fun _ => by show _ = s.heap.size - 1 + 0 + 1; omega, by show s.heap.size - 1 + 0 < _; omega, zX0_0 rfl⟩
  have hn : zn (zc (fun _ _ => 0) (fun _ _ => 0) 0) = 0 := rfl
  exact law_all (E := (L, xs)) hL (o := (.inl none, zm u0 zx00)) p l e room_1 s m #[Value.ref b] below meth c D ca (s.heap.size - 1) b s.heap [] lr hC hR va_S.rf (fun q h1 h2 => absurd h1 (by have h3 : q ≤ s.heap.size - 1 + 0 := h2; omega)) (Nat.le_refl _) hLL
