/-! the law, turn by turn (printed by wip/p25/gen_10.py) -/
theorem z_end {E : Nat × (Nat → Int32)} {o : zO} {ls : List Value} {M : zM} {u us pc : Nat} (hu : u ≤ 600086) (hus : us ≤ 7301442) (d : decode (zKc kL_law) pc = .ok (.ireturn, 1)) : zV true E kL_law 0 o pc ls [.int (nI 1)] M u us := by
  intro p l e R s m args below meth c D ca bs b H locs lr hC hR hS hA hn0 hL
  have hRm : R = room_1 := hC.2.2.2.2.2.2.1
  subst hRm
  refine va_forget (fun q hq => ?_) (W.widen hu hus ?_)
  · rcases hS.2.2 q hq with h | h
    · have h1 := h.1
      have h2 := h.2
      omega
    · exact h
  · show W p l e room_1 s m args below meth c H [] 600086 7301442 (lw_Z below args s) (F0 m pc lr [.int 1])
    intro T hT X
    have hr : meth.sig.returnType = ret := hC.2.2.2.2.2.2.2.1
    have hb : c.code = code := hC.2.1
    have hx := hC.1
    have hdg : decode code pc = .ok (.ireturn, 1) := d
    have hlocks : meth.locks = false := hC.2.2.2.2.2.1
    obtain ⟨fs, hret, hrun, hended, hW, hframe⟩ := X.leave (v := some (.int 1)) (hlocks := hlocks) (fun h => by rw [hr] at h; cases h)
    have hmeth' : T.vm.method? m = some meth := X.method'
    refine ⟨T.setFrames fs, ?_, .returned (some (.int 1)), hrun, hended, rfl, ⟨_, rfl⟩, hW, hframe⟩
    jvm_step X.here [X.here.top, hx, hb, hdg, hmeth', hr, ret, narrow_b1]
    (try refine ⟨rfl, ?_⟩); (try refine ⟨rfl, ?_⟩)
    first | (intro acts; rw [hret _ acts rfl rfl rfl]) | rw [hret _ _ rfl rfl rfl]
    exact Steps.refl _
set_option maxRecDepth 100000 in
set_option maxHeartbeats 4000000 in
theorem lp_T {E : Nat × (Nat → Int32)} (hE : E.1 ≤ 260) {o : zO} {J : Nat → Nat}  {nr : Nat} {rf rt : Nat → Nat} : ∀ (n : Nat) (tn : Nat) (μ ν : zMu) (nc ni u us : Nat), 30 - tn = n → tn ≤ 30 → iv μ ν nc nr ni rf rt → u ≤ 1000 + 2000 * tn → us ≤ 64 * u → zV true E kL_law 0 o 603 (.ref (0) :: .ref (1) :: .ref (J 0) :: .ref (J 1) :: .ref (J 2) :: .ref (J 3) :: .ref (J 4) :: .ref (J 5) :: .ref (J 6) :: .ref (J 7) :: .ref (J 8) :: .int (nI (27 + 2 * tn)) :: .ref (J 9) :: .ref (J 10) :: .int (nI nr) :: .int (nI nc) :: .int (nI ni) :: .int (nI tn) :: .null :: .null :: .null :: .null :: .null :: .null :: .null :: .null :: .null :: .null :: .null :: .null :: .null :: .null :: .null :: []) [] (zm μ (J, 11, ν)) u us := by
  intro n
  induction n using Nat.strongRecOn with
  | ind n ih =>
    intro tn μ ν nc ni u us e h30 hI hu hus
    have hb5 : nc ≤ 5 := hI.1.1.2
    have hb4 : ni ≤ 4 := hI.1.2.2.2
    have hb13 := hI.1.2.1.2
    refine z_iload rfl dL_law_603 ?_
    refine z_bipush (nI 30) (by decide) dL_law_605 ?_
    refine z_icmp_ge 2509 (by decide) dL_law_607 (z_br (zcn (n := 30) (by omega) (tn) (by omega)).2.2 (fun h607t => ?_)) (z_brn (zcn (n := 30) (by omega) (tn) (by omega)).2.2 (fun h607f => ?_))
    · refine z_iconst (nI 1) (by decide) dL_law_2509 ?_
      exact z_end (by omega) (by omega) dL_law_2510
    · have tail : ∀ (μ2 ν2 : zMu) (nc2 ni2 u2 us2 : Nat), iv μ2 ν2 nc2 nr ni2 rf rt → u2 ≤ u + 220 → us2 ≤ 64 * u2 → zV true E kL_law 0 o 2482 (.ref (0) :: .ref (1) :: .ref (J 0) :: .ref (J 1) :: .ref (J 2) :: .ref (J 3) :: .ref (J 4) :: .ref (J 5) :: .ref (J 6) :: .ref (J 7) :: .ref (J 8) :: .int (nI (27 + 2 * tn + 2)) :: .ref (J 9) :: .ref (J 10) :: .int (nI nr) :: .int (nI nc2) :: .int (nI ni2) :: .int (nI tn) :: .null :: .null :: .null :: .null :: .null :: .null :: .null :: .null :: .null :: .null :: .null :: .null :: .null :: .null :: .null :: []) [] (zm μ2 (J, 11, ν2)) u2 us2 := by
        intro μ2 ν2 nc2 ni2 u2 us2 hI2 hu2 hus2
        have hb2 : nc2 ≤ 5 := hI2.1.1.2
        refine z_aload_n rfl rfl dL_law_2482 ?_
        refine z_aload_n rfl rfl dL_law_2483 ?_
        refine z_aload_n rfl rfl dL_law_2484 ?_
        refine z_aload rfl dL_law_2485 ?_
        refine z_aload rfl dL_law_2487 ?_
        refine z_aload rfl dL_law_2489 ?_
        refine z_aload rfl dL_law_2491 ?_
        refine z_iload rfl dL_law_2493 ?_
        refine z_callS (as := [.ref (1), .ref (J 0), .ref (J 1), .ref (J 2), .ref (J 3), .ref (J 4), .ref (J 5), .int (nI nc2)]) (ct_L_right hI2) ko_L_right kl_L_108 rfl rfl ⟨by decide, by decide, by show u2 + 1760 ≤ 600086; omega, by show us2 + 10560 ≤ 7301442; omega⟩ (Nat.le_of_ble_eq_true rfl) rfl dL_law_2495 ?_
        show zV true E kL_law 0 o 2498 (.ref (0) :: .ref (1) :: .ref (J 0) :: .ref (J 1) :: .ref (J 2) :: .ref (J 3) :: .ref (J 4) :: .ref (J 5) :: .ref (J 6) :: .ref (J 7) :: .ref (J 8) :: .int (nI (27 + 2 * tn + 2)) :: .ref (J 9) :: .ref (J 10) :: .int (nI nr) :: .int (nI nc2) :: .int (nI ni2) :: .int (nI tn) :: .null :: .null :: .null :: .null :: .null :: .null :: .null :: .null :: .null :: .null :: .null :: .null :: .null :: .null :: .null :: []) [.int (nI 1)] (zm μ2 (J, 11, ν2)) (u2 + 1760) (us2 + 10560)
        refine z_if_ne 2503 (by decide) dL_law_2498 (fun _ => ?_) (fun h => absurd h (by decide))
        refine z_iinc (nI (tn + 1)) rfl (zincN _ 1) (by decide) rfl dL_law_2503 ?_
        refine z_goto 603 (by decide) dL_law_2506 ?_
        refine z_lseq (ls1 := (.ref (0) :: .ref (1) :: .ref (J 0) :: .ref (J 1) :: .ref (J 2) :: .ref (J 3) :: .ref (J 4) :: .ref (J 5) :: .ref (J 6) :: .ref (J 7) :: .ref (J 8) :: .int (nI (27 + 2 * (tn + 1))) :: .ref (J 9) :: .ref (J 10) :: .int (nI nr) :: .int (nI nc2) :: .int (nI ni2) :: .int (nI (tn + 1)) :: .null :: .null :: .null :: .null :: .null :: .null :: .null :: .null :: .null :: .null :: .null :: .null :: .null :: .null :: .null :: [])) (by rw [show 27 + 2 * tn + 2 = 27 + 2 * (tn + 1) by omega]; rfl) ?_
        exact ih (30 - (tn + 1)) (by omega) (tn + 1) μ2 ν2 nc2 ni2 _ _ rfl (by omega) hI2 (by show u2 + 1760 ≤ _; omega) (by show us2 + 10560 ≤ 64 * (u2 + 1760); omega)
      refine z_aload_n rfl rfl dL_law_610 ?_
      refine z_iload rfl dL_law_611 ?_
      obtain ⟨v613, hc613⟩ := ct_L_cell (E := E) (μ := μ) (J := J) (m := 11) (ν := ν) hE (k := 27 + 2 * tn) (by omega)
      refine z_callS (as := [.ref (0), .int (nI (27 + 2 * tn))]) hc613 ko_L_cell kl_L_53 rfl rfl ⟨by decide, by decide, by show u + 0 ≤ 600086; omega, by show us + 0 ≤ 7301442; omega⟩ (Nat.le_of_ble_eq_true rfl) rfl dL_law_613 ?_
      show zV true E kL_law 0 o 616 (.ref (0) :: .ref (1) :: .ref (J 0) :: .ref (J 1) :: .ref (J 2) :: .ref (J 3) :: .ref (J 4) :: .ref (J 5) :: .ref (J 6) :: .ref (J 7) :: .ref (J 8) :: .int (nI (27 + 2 * tn)) :: .ref (J 9) :: .ref (J 10) :: .int (nI nr) :: .int (nI nc) :: .int (nI ni) :: .int (nI tn) :: .null :: .null :: .null :: .null :: .null :: .null :: .null :: .null :: .null :: .null :: .null :: .null :: .null :: .null :: .null :: []) [.int (v613)] (zm μ (J, 11, ν)) (u + 0) (us + 0)
      refine z_istore (by decide) rfl dL_law_616 ?_
      refine z_aload_n rfl rfl dL_law_618 ?_
      refine z_iload rfl dL_law_619 ?_
      refine z_iconst (nI 1) (by decide) dL_law_621 ?_
      refine m_addN dL_law_622 ?_
      obtain ⟨v623, hc623⟩ := ct_L_cell (E := E) (μ := μ) (J := J) (m := 11) (ν := ν) hE (k := (27 + 2 * tn) + 1) (by omega)
      refine z_callS (as := [.ref (0), .int (nI ((27 + 2 * tn) + 1))]) hc623 ko_L_cell kl_L_53 rfl rfl ⟨by decide, by decide, by show u + 0 + 0 ≤ 600086; omega, by show us + 0 + 0 ≤ 7301442; omega⟩ (Nat.le_of_ble_eq_true rfl) rfl dL_law_623 ?_
      show zV true E kL_law 0 o 626 (.ref (0) :: .ref (1) :: .ref (J 0) :: .ref (J 1) :: .ref (J 2) :: .ref (J 3) :: .ref (J 4) :: .ref (J 5) :: .ref (J 6) :: .ref (J 7) :: .ref (J 8) :: .int (nI (27 + 2 * tn)) :: .ref (J 9) :: .ref (J 10) :: .int (nI nr) :: .int (nI nc) :: .int (nI ni) :: .int (nI tn) :: .int (v613) :: .null :: .null :: .null :: .null :: .null :: .null :: .null :: .null :: .null :: .null :: .null :: .null :: .null :: .null :: []) [.int (v623)] (zm μ (J, 11, ν)) (u + 0 + 0) (us + 0 + 0)
      refine z_istore (by decide) rfl dL_law_626 ?_
      refine z_iinc (nI (27 + 2 * tn + 2)) rfl (zincN _ 2) (by decide) rfl dL_law_628 ?_
      refine z_iload rfl dL_law_631 ?_
      refine z_bipush (nI 9) (by decide) dL_law_633 ?_
      obtain ⟨k635, hk635, hl635⟩ := ct_L_low (E := E) (μ := μ) (J := J) (m := 11) (ν := ν) (v613) (n := 9) (by omega) (by omega)
      refine z_callS (as := [.int (v613), .int (nI 9)]) hl635 ko_L_low kl_L_57 rfl rfl ⟨by decide, by decide, by show u + 0 + 0 + 0 ≤ 600086; omega, by show us + 0 + 0 + 0 ≤ 7301442; omega⟩ (Nat.le_of_ble_eq_true rfl) rfl dL_law_635 ?_
      show zV true E kL_law 0 o 638 (.ref (0) :: .ref (1) :: .ref (J 0) :: .ref (J 1) :: .ref (J 2) :: .ref (J 3) :: .ref (J 4) :: .ref (J 5) :: .ref (J 6) :: .ref (J 7) :: .ref (J 8) :: .int (nI (27 + 2 * tn + 2)) :: .ref (J 9) :: .ref (J 10) :: .int (nI nr) :: .int (nI nc) :: .int (nI ni) :: .int (nI tn) :: .int (v613) :: .int (v623) :: .null :: .null :: .null :: .null :: .null :: .null :: .null :: .null :: .null :: .null :: .null :: .null :: .null :: []) [.int (nI k635)] (zm μ (J, 11, ν)) (u + 0 + 0 + 0) (us + 0 + 0 + 0)
      refine z_istore (by decide) rfl dL_law_638 ?_
      refine z_iload rfl dL_law_640 ?_
      refine z_if_ne 649 (by decide) dL_law_642 (z_brn (z0e (n := nc) (by omega)) (fun h642t => ?_)) (z_br (z0e (n := nc) (by omega)) (fun h642f => ?_))
      · refine z_iload rfl dL_law_649 ?_
        refine z_iconst (nI 4) (by decide) dL_law_651 ?_
        refine z_ishr dL_law_652 ?_
        refine z_iload rfl dL_law_653 ?_
        obtain ⟨k655, hk655, hl655⟩ := ct_L_low (E := E) (μ := μ) (J := J) (m := 11) (ν := ν) (v613 >>> ((nI 4) &&& 31)) (n := nc) (by omega) (by omega)
        refine z_callS (as := [.int (v613 >>> ((nI 4) &&& 31)), .int (nI nc)]) hl655 ko_L_low kl_L_57 rfl rfl ⟨by decide, by decide, by show u + 0 + 0 + 0 + 0 ≤ 600086; omega, by show us + 0 + 0 + 0 + 0 ≤ 7301442; omega⟩ (Nat.le_of_ble_eq_true rfl) rfl dL_law_655 ?_
        show zV true E kL_law 0 o 658 (.ref (0) :: .ref (1) :: .ref (J 0) :: .ref (J 1) :: .ref (J 2) :: .ref (J 3) :: .ref (J 4) :: .ref (J 5) :: .ref (J 6) :: .ref (J 7) :: .ref (J 8) :: .int (nI (27 + 2 * tn + 2)) :: .ref (J 9) :: .ref (J 10) :: .int (nI nr) :: .int (nI nc) :: .int (nI ni) :: .int (nI tn) :: .int (v613) :: .int (v623) :: .int (nI k635) :: .null :: .null :: .null :: .null :: .null :: .null :: .null :: .null :: .null :: .null :: .null :: .null :: []) [.int (nI k655)] (zm μ (J, 11, ν)) (u + 0 + 0 + 0 + 0) (us + 0 + 0 + 0 + 0)
        refine z_istore (by decide) rfl dL_law_658 ?_
        have hc := hk655
        have s2420 : zV true E kL_law 0 o 2420 (.ref (0) :: .ref (1) :: .ref (J 0) :: .ref (J 1) :: .ref (J 2) :: .ref (J 3) :: .ref (J 4) :: .ref (J 5) :: .ref (J 6) :: .ref (J 7) :: .ref (J 8) :: .int (nI (27 + 2 * tn + 2)) :: .ref (J 9) :: .ref (J 10) :: .int (nI nr) :: .int (nI nc) :: .int (nI ni) :: .int (nI tn) :: .int (v613) :: .int (v623) :: .int (nI k635) :: .int (nI k655) :: .null :: .null :: .null :: .null :: .null :: .null :: .null :: .null :: .null :: .null :: .null :: []) [] (zm μ (J, 11, ν)) (u + 0 + 0 + 0 + 0) (us + 0 + 0 + 0 + 0) := by
          refine z_iload rfl dL_law_2420 ?_
          refine z_if_le 2482 (by decide) dL_law_2422 (z_br (z0l (n := ni) (by omega)) (fun h2422t => ?_)) (z_brn (z0l (n := ni) (by omega)) (fun h2422f => ?_))
          · refine z_fgt (.ref (0) :: .ref (1) :: .ref (J 0) :: .ref (J 1) :: .ref (J 2) :: .ref (J 3) :: .ref (J 4) :: .ref (J 5) :: .ref (J 6) :: .ref (J 7) :: .ref (J 8) :: .int (nI (27 + 2 * tn + 2)) :: .ref (J 9) :: .ref (J 10) :: .int (nI nr) :: .int (nI nc) :: .int (nI ni) :: .int (nI tn) :: .null :: .null :: .null :: .null :: .null :: .null :: .null :: .null :: .null :: .null :: .null :: .null :: .null :: .null :: .null :: []) ⟨Or.inl rfl, ⟨Or.inl rfl, ⟨Or.inl rfl, ⟨Or.inl rfl, ⟨Or.inl rfl, ⟨Or.inl rfl, ⟨Or.inl rfl, ⟨Or.inl rfl, ⟨Or.inl rfl, ⟨Or.inl rfl, ⟨Or.inl rfl, ⟨Or.inl rfl, ⟨Or.inl rfl, ⟨Or.inl rfl, ⟨Or.inl rfl, ⟨Or.inl rfl, ⟨Or.inl rfl, ⟨Or.inl rfl, ⟨Or.inr rfl, ⟨Or.inr rfl, ⟨Or.inr rfl, ⟨Or.inr rfl, ⟨Or.inl rfl, ⟨Or.inl rfl, ⟨Or.inl rfl, ⟨Or.inl rfl, ⟨Or.inl rfl, ⟨Or.inl rfl, ⟨Or.inl rfl, ⟨Or.inl rfl, ⟨Or.inl rfl, ⟨Or.inl rfl, ⟨Or.inl rfl, trivial⟩⟩⟩⟩⟩⟩⟩⟩⟩⟩⟩⟩⟩⟩⟩⟩⟩⟩⟩⟩⟩⟩⟩⟩⟩⟩⟩⟩⟩⟩⟩⟩⟩ ?_
            exact tail μ ν nc ni _ _ hI (by show u + 0 + 0 + 0 + 0 ≤ _; omega) (by show us + 0 + 0 + 0 + 0 ≤ 64 * (u + 0 + 0 + 0 + 0); omega)
          · exact sc_paint hE hI hc (by omega) (by omega) (fun μ2 ν2 nc2 ni2 u2 us2 a1 a2 a3 => tail μ2 ν2 nc2 ni2 u2 us2 a1 (by omega) a3) (by omega)
        have s2344 : zV true E kL_law 0 o 2344 (.ref (0) :: .ref (1) :: .ref (J 0) :: .ref (J 1) :: .ref (J 2) :: .ref (J 3) :: .ref (J 4) :: .ref (J 5) :: .ref (J 6) :: .ref (J 7) :: .ref (J 8) :: .int (nI (27 + 2 * tn + 2)) :: .ref (J 9) :: .ref (J 10) :: .int (nI nr) :: .int (nI nc) :: .int (nI ni) :: .int (nI tn) :: .int (v613) :: .int (v623) :: .int (nI k635) :: .int (nI k655) :: .null :: .null :: .null :: .null :: .null :: .null :: .null :: .null :: .null :: .null :: .null :: []) [] (zm μ (J, 11, ν)) (u + 0 + 0 + 0 + 0) (us + 0 + 0 + 0 + 0) := by
          refine z_iload rfl dL_law_2344 ?_
          refine z_iconst (nI 3) (by decide) dL_law_2346 ?_
          obtain ⟨k2347, hk2347, hl2347⟩ := ct_L_low (E := E) (μ := μ) (J := J) (m := 11) (ν := ν) (v623) (n := 3) (by omega) (by omega)
          refine z_callS (as := [.int (v623), .int (nI 3)]) hl2347 ko_L_low kl_L_57 rfl rfl ⟨by decide, by decide, by show u + 0 + 0 + 0 + 0 + 0 ≤ 600086; omega, by show us + 0 + 0 + 0 + 0 + 0 ≤ 7301442; omega⟩ (Nat.le_of_ble_eq_true rfl) rfl dL_law_2347 ?_
          show zV true E kL_law 0 o 2350 (.ref (0) :: .ref (1) :: .ref (J 0) :: .ref (J 1) :: .ref (J 2) :: .ref (J 3) :: .ref (J 4) :: .ref (J 5) :: .ref (J 6) :: .ref (J 7) :: .ref (J 8) :: .int (nI (27 + 2 * tn + 2)) :: .ref (J 9) :: .ref (J 10) :: .int (nI nr) :: .int (nI nc) :: .int (nI ni) :: .int (nI tn) :: .int (v613) :: .int (v623) :: .int (nI k635) :: .int (nI k655) :: .null :: .null :: .null :: .null :: .null :: .null :: .null :: .null :: .null :: .null :: .null :: []) [.int (nI k2347)] (zm μ (J, 11, ν)) (u + 0 + 0 + 0 + 0 + 0) (us + 0 + 0 + 0 + 0 + 0)
          refine z_if_ne 2420 (by decide) dL_law_2350 (z_brn (z0e (n := k2347) (by omega)) (fun h2350t => ?_)) (z_br (z0e (n := k2347) (by omega)) (fun h2350f => ?_))
          · exact s2420
          · exact sc_lose hE hI hc (by omega) (by omega) (fun μ2 ν2 nc2 ni2 u2 us2 a1 a2 a3 => tail μ2 ν2 nc2 ni2 u2 us2 a1 (by omega) a3)
        have s2128 : zV true E kL_law 0 o 2128 (.ref (0) :: .ref (1) :: .ref (J 0) :: .ref (J 1) :: .ref (J 2) :: .ref (J 3) :: .ref (J 4) :: .ref (J 5) :: .ref (J 6) :: .ref (J 7) :: .ref (J 8) :: .int (nI (27 + 2 * tn + 2)) :: .ref (J 9) :: .ref (J 10) :: .int (nI nr) :: .int (nI nc) :: .int (nI ni) :: .int (nI tn) :: .int (v613) :: .int (v623) :: .int (nI k635) :: .int (nI k655) :: .null :: .null :: .null :: .null :: .null :: .null :: .null :: .null :: .null :: .null :: .null :: []) [] (zm μ (J, 11, ν)) (u + 0 + 0 + 0 + 0) (us + 0 + 0 + 0 + 0) := by
          refine z_iload rfl dL_law_2128 ?_
          refine z_bipush (nI 7) (by decide) dL_law_2130 ?_
          refine z_icmp_ne 2344 (by decide) dL_law_2132 (z_brn (zcn (n := k635) (by omega) (7) (by omega)).1 (fun h2132t => ?_)) (z_br (zcn (n := k635) (by omega) (7) (by omega)).1 (fun h2132f => ?_))
          · exact s2344
          · exact sc_shrink hE hI hc (by omega) (by omega) (fun μ2 ν2 nc2 ni2 u2 us2 a1 a2 a3 => tail μ2 ν2 nc2 ni2 u2 us2 a1 (by omega) a3)
        have s2020 : zV true E kL_law 0 o 2020 (.ref (0) :: .ref (1) :: .ref (J 0) :: .ref (J 1) :: .ref (J 2) :: .ref (J 3) :: .ref (J 4) :: .ref (J 5) :: .ref (J 6) :: .ref (J 7) :: .ref (J 8) :: .int (nI (27 + 2 * tn + 2)) :: .ref (J 9) :: .ref (J 10) :: .int (nI nr) :: .int (nI nc) :: .int (nI ni) :: .int (nI tn) :: .int (v613) :: .int (v623) :: .int (nI k635) :: .int (nI k655) :: .null :: .null :: .null :: .null :: .null :: .null :: .null :: .null :: .null :: .null :: .null :: []) [] (zm μ (J, 11, ν)) (u + 0 + 0 + 0 + 0) (us + 0 + 0 + 0 + 0) := by
          refine z_iload rfl dL_law_2020 ?_
          refine z_bipush (nI 6) (by decide) dL_law_2022 ?_
          refine z_icmp_ne 2128 (by decide) dL_law_2024 (z_brn (zcn (n := k635) (by omega) (6) (by omega)).1 (fun h2024t => ?_)) (z_br (zcn (n := k635) (by omega) (6) (by omega)).1 (fun h2024f => ?_))
          · exact s2128
          · exact sc_hand hE hI hc (by omega) (by omega) (fun μ2 ν2 nc2 ni2 u2 us2 a1 a2 a3 => tail μ2 ν2 nc2 ni2 u2 us2 a1 (by omega) a3)
        have s1933 : zV true E kL_law 0 o 1933 (.ref (0) :: .ref (1) :: .ref (J 0) :: .ref (J 1) :: .ref (J 2) :: .ref (J 3) :: .ref (J 4) :: .ref (J 5) :: .ref (J 6) :: .ref (J 7) :: .ref (J 8) :: .int (nI (27 + 2 * tn + 2)) :: .ref (J 9) :: .ref (J 10) :: .int (nI nr) :: .int (nI nc) :: .int (nI ni) :: .int (nI tn) :: .int (v613) :: .int (v623) :: .int (nI k635) :: .int (nI k655) :: .null :: .null :: .null :: .null :: .null :: .null :: .null :: .null :: .null :: .null :: .null :: []) [] (zm μ (J, 11, ν)) (u + 0 + 0 + 0 + 0) (us + 0 + 0 + 0 + 0) := by
          refine z_iload rfl dL_law_1933 ?_
          refine z_iconst (nI 5) (by decide) dL_law_1935 ?_
          refine z_icmp_ne 2020 (by decide) dL_law_1936 (z_brn (zcn (n := k635) (by omega) (5) (by omega)).1 (fun h1936t => ?_)) (z_br (zcn (n := k635) (by omega) (5) (by omega)).1 (fun h1936f => ?_))
          · exact s2020
          · exact sc_exchange hE hI hc (by omega) (by omega) (fun μ2 ν2 nc2 ni2 u2 us2 a1 a2 a3 => tail μ2 ν2 nc2 ni2 u2 us2 a1 (by omega) a3)
        have s1890 : zV true E kL_law 0 o 1890 (.ref (0) :: .ref (1) :: .ref (J 0) :: .ref (J 1) :: .ref (J 2) :: .ref (J 3) :: .ref (J 4) :: .ref (J 5) :: .ref (J 6) :: .ref (J 7) :: .ref (J 8) :: .int (nI (27 + 2 * tn + 2)) :: .ref (J 9) :: .ref (J 10) :: .int (nI nr) :: .int (nI nc) :: .int (nI ni) :: .int (nI tn) :: .int (v613) :: .int (v623) :: .int (nI k635) :: .int (nI k655) :: .null :: .null :: .null :: .null :: .null :: .null :: .null :: .null :: .null :: .null :: .null :: []) [] (zm μ (J, 11, ν)) (u + 0 + 0 + 0 + 0) (us + 0 + 0 + 0 + 0) := by
          refine z_iload rfl dL_law_1890 ?_
          refine z_iconst (nI 4) (by decide) dL_law_1892 ?_
          refine z_icmp_ne 1933 (by decide) dL_law_1893 (z_brn (zcn (n := k635) (by omega) (4) (by omega)).1 (fun h1893t => ?_)) (z_br (zcn (n := k635) (by omega) (4) (by omega)).1 (fun h1893f => ?_))
          · exact s1933
          · refine z_iload rfl dL_law_1896 ?_
            refine z_iconst (nI 4) (by decide) dL_law_1898 ?_
            refine z_icmp_ge 1933 (by decide) dL_law_1899 (z_br (zcn (n := 4) (by omega) (ni) (by omega)).2.2 (fun h1899t => ?_)) (z_brn (zcn (n := 4) (by omega) (ni) (by omega)).2.2 (fun h1899f => ?_))
            · exact s1933
            · exact sc_island hE hI hc (by omega) (by omega) (fun μ2 ν2 nc2 ni2 u2 us2 a1 a2 a3 => tail μ2 ν2 nc2 ni2 u2 us2 a1 (by omega) a3) (by omega)
        have s1397 : zV true E kL_law 0 o 1397 (.ref (0) :: .ref (1) :: .ref (J 0) :: .ref (J 1) :: .ref (J 2) :: .ref (J 3) :: .ref (J 4) :: .ref (J 5) :: .ref (J 6) :: .ref (J 7) :: .ref (J 8) :: .int (nI (27 + 2 * tn + 2)) :: .ref (J 9) :: .ref (J 10) :: .int (nI nr) :: .int (nI nc) :: .int (nI ni) :: .int (nI tn) :: .int (v613) :: .int (v623) :: .int (nI k635) :: .int (nI k655) :: .null :: .null :: .null :: .null :: .null :: .null :: .null :: .null :: .null :: .null :: .null :: []) [] (zm μ (J, 11, ν)) (u + 0 + 0 + 0 + 0) (us + 0 + 0 + 0 + 0) := by
          refine z_iload rfl dL_law_1397 ?_
          refine z_iconst (nI 3) (by decide) dL_law_1399 ?_
          refine z_icmp_ne 1890 (by decide) dL_law_1400 (z_brn (zcn (n := k635) (by omega) (3) (by omega)).1 (fun h1400t => ?_)) (z_br (zcn (n := k635) (by omega) (3) (by omega)).1 (fun h1400f => ?_))
          · exact s1890
          · refine z_iload rfl dL_law_1403 ?_
            refine z_iconst (nI 1) (by decide) dL_law_1405 ?_
            refine z_icmp_le 1890 (by decide) dL_law_1406 (z_br (zcn (n := nc) (by omega) (1) (by omega)).2.2 (fun h1406t => ?_)) (z_brn (zcn (n := nc) (by omega) (1) (by omega)).2.2 (fun h1406f => ?_))
            · exact s1890
            · exact sc_paste hE hI hc (by omega) (by omega) (fun μ2 ν2 nc2 ni2 u2 us2 a1 a2 a3 => tail μ2 ν2 nc2 ni2 u2 us2 a1 (by omega) a3) (by omega)
        have s1112 : zV true E kL_law 0 o 1112 (.ref (0) :: .ref (1) :: .ref (J 0) :: .ref (J 1) :: .ref (J 2) :: .ref (J 3) :: .ref (J 4) :: .ref (J 5) :: .ref (J 6) :: .ref (J 7) :: .ref (J 8) :: .int (nI (27 + 2 * tn + 2)) :: .ref (J 9) :: .ref (J 10) :: .int (nI nr) :: .int (nI nc) :: .int (nI ni) :: .int (nI tn) :: .int (v613) :: .int (v623) :: .int (nI k635) :: .int (nI k655) :: .null :: .null :: .null :: .null :: .null :: .null :: .null :: .null :: .null :: .null :: .null :: []) [] (zm μ (J, 11, ν)) (u + 0 + 0 + 0 + 0) (us + 0 + 0 + 0 + 0) := by
          refine z_iload rfl dL_law_1112 ?_
          refine z_iconst (nI 3) (by decide) dL_law_1114 ?_
          refine z_icmp_ge 1397 (by decide) dL_law_1115 (z_br (zcn (n := 3) (by omega) (k635) (by omega)).2.2 (fun h1115t => ?_)) (z_brn (zcn (n := 3) (by omega) (k635) (by omega)).2.2 (fun h1115f => ?_))
          · exact s1397
          · refine z_iload rfl dL_law_1118 ?_
            refine z_iconst (nI 5) (by decide) dL_law_1120 ?_
            refine z_icmp_ge 1397 (by decide) dL_law_1121 (z_br (zcn (n := 5) (by omega) (nc) (by omega)).2.2 (fun h1121t => ?_)) (z_brn (zcn (n := 5) (by omega) (nc) (by omega)).2.2 (fun h1121f => ?_))
            · exact s1397
            · exact sc_copy hE hI hc (by omega) (by omega) (fun μ2 ν2 nc2 ni2 u2 us2 a1 a2 a3 => tail μ2 ν2 nc2 ni2 u2 us2 a1 (by omega) a3) (by omega)
        refine z_iload rfl dL_law_660 ?_
        refine z_if_eq 676 (by decide) dL_law_662 (fun h662t => ((h642t ((z0e (n := nc) (by omega)).mp h662t) : False)).elim) (fun h662f => ?_)
        refine z_iload rfl dL_law_665 ?_
        refine z_if_ne 1112 (by decide) dL_law_667 (z_brn (z0e (n := k635) (by omega)) (fun h667t => ?_)) (z_br (z0e (n := k635) (by omega)) (fun h667f => ?_))
        · exact s1112
        · refine z_iload rfl dL_law_670 ?_
          refine z_iconst (nI 5) (by decide) dL_law_672 ?_
          refine z_icmp_ge 1112 (by decide) dL_law_673 (z_br (zcn (n := 5) (by omega) (nc) (by omega)).2.2 (fun h673t => ?_)) (z_brn (zcn (n := 5) (by omega) (nc) (by omega)).2.2 (fun h673f => ?_))
          · exact s1112
          · exact sc_chart hE hI (by omega) (by omega) (fun μ2 ν2 nc2 ni2 u2 us2 a1 a2 a3 => tail μ2 ν2 nc2 ni2 u2 us2 a1 (by omega) a3) (by omega)
      · refine z_iconst (nI 0) (by decide) dL_law_645 ?_
        refine z_goto 658 (by decide) dL_law_646 ?_
        refine z_istore (by decide) rfl dL_law_658 ?_
        refine z_iload rfl dL_law_660 ?_
        refine z_if_eq 676 (by decide) dL_law_662 (fun h662t => ?_) (fun h662f => ((h662f (by rw [h642f]; rfl) : False)).elim)
        exact sc_chart hE hI (by omega) (by omega) (fun μ2 ν2 nc2 ni2 u2 us2 a1 a2 a3 => tail μ2 ν2 nc2 ni2 u2 us2 a1 (by omega) a3) (by omega)
theorem law_all {E : Nat × (Nat → Int32)} (hE : E.1 ≤ 260) {o : zO} : zV true E kL_law 0 o 0 (.ref (0) :: .null :: .null :: .null :: .null :: .null :: .null :: .null :: .null :: .null :: .null :: .null :: .null :: .null :: .null :: .null :: .null :: .null :: .null :: .null :: .null :: .null :: .null :: .null :: .null :: .null :: .null :: .null :: .null :: .null :: .null :: .null :: .null :: []) [] (zc (fun _ _ => 0) (fun _ _ => 0) 0) 0 0 :=
  law_init hE (fun J μ ν nr rf rt u us hI hu hus => lp_T hE (J := J) _ 0 μ ν 0 0 u us rfl (by omega) hI (by omega) hus)
