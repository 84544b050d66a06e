/-! the law's loop (printed by wip/whole/gen_t.py) -/
def zOkI (E : Nat × (Nat → Int32)) (Kc Kr : zK) (as : List Value) (Iv : zMu → Prop) (μ : zMu) : Prop := ∃ (μ1 μ2 : zMu) (v : Int32), (∀ g, zCt E Kc (.ref 1 :: as) (zm μ g) (.inl (some (.int v)), zm μ1 g)) ∧ (∀ g, zCt E Kr (.ref 117 :: as) (zm μ1 g) (.inl (some (.int v)), zm μ2 g)) ∧ μ2 117 0 = nI 0 ∧ Iv μ2
def zOkV (E : Nat × (Nat → Int32)) (Kc Kr : zK) (as : List Value) (Iv : zMu → Prop) (μ : zMu) : Prop := ∃ (μ1 μ2 : zMu), (∀ g, zCt E Kc (.ref 1 :: as) (zm μ g) (.inl none, zm μ1 g)) ∧ (∀ g, zCt E Kr (.ref 117 :: as) (zm μ1 g) (.inl none, zm μ2 g)) ∧ μ2 117 0 = nI 0 ∧ Iv μ2
def zThI (E : Nat × (Nat → Int32)) (Kc Kr : zK) (as : List Value) (Iv : zMu → Prop) (μ : zMu) (ex : String) (j : Nat) : Prop := ∃ (μ2 : zMu) (w : Int32), (∀ g, zCt E Kc (.ref 1 :: as) (zm μ g) (.inr ex, zm μ g)) ∧ (∀ g, zCt E Kr (.ref 117 :: as) (zm μ g) (.inl (some (.int w)), zm μ2 g)) ∧ μ2 117 0 = nI j ∧ Iv μ2
def zThV (E : Nat × (Nat → Int32)) (Kc Kr : zK) (as : List Value) (Iv : zMu → Prop) (μ : zMu) (ex : String) (j : Nat) : Prop := ∃ (μ2 : zMu), (∀ g, zCt E Kc (.ref 1 :: as) (zm μ g) (.inr ex, zm μ g)) ∧ (∀ g, zCt E Kr (.ref 117 :: as) (zm μ g) (.inl none, zm μ2 g)) ∧ μ2 117 0 = nI j ∧ Iv μ2
/-- what is asked of each call: class and reference answer alike, and what joins them stays -/
def zAll (Iv : zMu → Prop) (E : Nat × (Nat → Int32)) (μ : zMu) (x1 x2 x3 x4 x5 : Int32) : Nat → Prop
  | 0 => zOkV E kX7_coast kX8_coast [.int (x1), .int (x2), .int (x3), .int (x4), .int (x5)] Iv μ ∨ zThV E kX7_coast kX8_coast [.int (x1), .int (x2), .int (x3), .int (x4), .int (x5)] Iv μ xI 1 ∨ zThV E kX7_coast kX8_coast [.int (x1), .int (x2), .int (x3), .int (x4), .int (x5)] Iv μ xA 2 ∨ zThV E kX7_coast kX8_coast [.int (x1), .int (x2), .int (x3), .int (x4), .int (x5)] Iv μ xS 3
  | 1 => zOkI E kX7_pilot kX8_pilot [.int (x1), .int (x2)] Iv μ ∨ zThI E kX7_pilot kX8_pilot [.int (x1), .int (x2)] Iv μ xA 1 ∨ zThI E kX7_pilot kX8_pilot [.int (x1), .int (x2)] Iv μ xS 2
  | 2 => zOkI E kX7_report kX8_report [.int (x1), .int (x2), .int (x3)] Iv μ ∨ zThI E kX7_report kX8_report [.int (x1), .int (x2), .int (x3)] Iv μ xI 1 ∨ zThI E kX7_report kX8_report [.int (x1), .int (x2), .int (x3)] Iv μ xA 2 ∨ zThI E kX7_report kX8_report [.int (x1), .int (x2), .int (x3)] Iv μ xS 3
  | 3 => zOkI E kX7_chart kX8_chart [.int (x1), .int (x2)] Iv μ ∨ zThI E kX7_chart kX8_chart [.int (x1), .int (x2)] Iv μ xA 1 ∨ zThI E kX7_chart kX8_chart [.int (x1), .int (x2)] Iv μ xS 2
  | 4 => zOkI E kX7_hand kX8_hand [.int (x1), .int (x2)] Iv μ ∨ zThI E kX7_hand kX8_hand [.int (x1), .int (x2)] Iv μ xI 1 ∨ zThI E kX7_hand kX8_hand [.int (x1), .int (x2)] Iv μ xA 2
  | 5 => zOkV E kX7_reads kX8_reads [.int (x1), .int (x2), .int (x3)] Iv μ ∨ zThV E kX7_reads kX8_reads [.int (x1), .int (x2), .int (x3)] Iv μ xI 1 ∨ zThV E kX7_reads kX8_reads [.int (x1), .int (x2), .int (x3)] Iv μ xA 2
  | 6 => zOkI E kX7_copy kX8_copy [.int (x1), .int (x2), .int (x3), .int (x4)] Iv μ ∨ zThI E kX7_copy kX8_copy [.int (x1), .int (x2), .int (x3), .int (x4)] Iv μ xI 1 ∨ zThI E kX7_copy kX8_copy [.int (x1), .int (x2), .int (x3), .int (x4)] Iv μ xA 2 ∨ zThI E kX7_copy kX8_copy [.int (x1), .int (x2), .int (x3), .int (x4)] Iv μ xS 3
  | 7 => zOkI E kX7_paste kX8_paste [.int (x1), .int (x2), .int (x3), .int (x4)] Iv μ ∨ zThI E kX7_paste kX8_paste [.int (x1), .int (x2), .int (x3), .int (x4)] Iv μ xI 1 ∨ zThI E kX7_paste kX8_paste [.int (x1), .int (x2), .int (x3), .int (x4)] Iv μ xA 2 ∨ zThI E kX7_paste kX8_paste [.int (x1), .int (x2), .int (x3), .int (x4)] Iv μ xS 3
  | 8 => zOkI E kX7_island kX8_island [.int (x1), .int (x2), .int (x3)] Iv μ ∨ zThI E kX7_island kX8_island [.int (x1), .int (x2), .int (x3)] Iv μ xI 1 ∨ zThI E kX7_island kX8_island [.int (x1), .int (x2), .int (x3)] Iv μ xA 2 ∨ zThI E kX7_island kX8_island [.int (x1), .int (x2), .int (x3)] Iv μ xS 3
  | 9 => zOkV E kX7_exchange kX8_exchange [.int (x1), .int (x2), .int (x3)] Iv μ ∨ zThV E kX7_exchange kX8_exchange [.int (x1), .int (x2), .int (x3)] Iv μ xI 1
  | 10 => (x4 = 0 → zOkI E kX7_shrink kX8_shrink [.int (x1), .int (x2), .int (x3), .int (nI 0)] Iv μ ∨ zThI E kX7_shrink kX8_shrink [.int (x1), .int (x2), .int (x3), .int (nI 0)] Iv μ xI 1 ∨ zThI E kX7_shrink kX8_shrink [.int (x1), .int (x2), .int (x3), .int (nI 0)] Iv μ xA 2 ∨ zThI E kX7_shrink kX8_shrink [.int (x1), .int (x2), .int (x3), .int (nI 0)] Iv μ xS 3) ∧ (¬ x4 = 0 → zOkI E kX7_shrink kX8_shrink [.int (x1), .int (x2), .int (x3), .int (nI 1)] Iv μ ∨ zThI E kX7_shrink kX8_shrink [.int (x1), .int (x2), .int (x3), .int (nI 1)] Iv μ xI 1 ∨ zThI E kX7_shrink kX8_shrink [.int (x1), .int (x2), .int (x3), .int (nI 1)] Iv μ xA 2 ∨ zThI E kX7_shrink kX8_shrink [.int (x1), .int (x2), .int (x3), .int (nI 1)] Iv μ xS 3)
  | 11 => zOkI E kX7_lose kX8_lose [.int (x1), .int (x2), .int (x3)] Iv μ ∨ zThI E kX7_lose kX8_lose [.int (x1), .int (x2), .int (x3)] Iv μ xI 1 ∨ zThI E kX7_lose kX8_lose [.int (x1), .int (x2), .int (x3)] Iv μ xA 2
  | 12 => zOkI E kX7_paint kX8_paint [.int (x1), .int (x2)] Iv μ ∨ zThI E kX7_paint kX8_paint [.int (x1), .int (x2)] Iv μ xI 1
  | 13 => (x2 = 0 → zOkI E kX7_told kX8_told [.int (x1), .int (nI 0)] Iv μ ∨ zThI E kX7_told kX8_told [.int (x1), .int (nI 0)] Iv μ xI 1) ∧ (¬ x2 = 0 → zOkI E kX7_told kX8_told [.int (x1), .int (nI 1)] Iv μ ∨ zThI E kX7_told kX8_told [.int (x1), .int (nI 1)] Iv μ xI 1)
  | 14 => zOkI E kX7_at kX8_at [.int (x1), .int (x2), .int (x3)] Iv μ ∨ zThI E kX7_at kX8_at [.int (x1), .int (x2), .int (x3)] Iv μ xI 1 ∨ zThI E kX7_at kX8_at [.int (x1), .int (x2), .int (x3)] Iv μ xA 2
  | 15 => zOkI E kX7_chain kX8_chain [.int (x1), .int (x2), .int (x3)] Iv μ ∨ zThI E kX7_chain kX8_chain [.int (x1), .int (x2), .int (x3)] Iv μ xI 1
  | 16 => zOkI E kX7_of kX8_of [.int (x1), .int (x2)] Iv μ ∨ zThI E kX7_of kX8_of [.int (x1), .int (x2)] Iv μ xI 1 ∨ zThI E kX7_of kX8_of [.int (x1), .int (x2)] Iv μ xA 2
  | 17 => zOkI E kX7_ofIsland kX8_ofIsland [.int (x1), .int (x2)] Iv μ ∨ zThI E kX7_ofIsland kX8_ofIsland [.int (x1), .int (x2)] Iv μ xI 1 ∨ zThI E kX7_ofIsland kX8_ofIsland [.int (x1), .int (x2)] Iv μ xA 2
  | 18 => zOkI E kX7_fit kX8_fit [.int (x1), .int (x2), .int (x3)] Iv μ ∨ zThI E kX7_fit kX8_fit [.int (x1), .int (x2), .int (x3)] Iv μ xI 1 ∨ zThI E kX7_fit kX8_fit [.int (x1), .int (x2), .int (x3)] Iv μ xA 2
  | 19 => zOkI E kX7_shared kX8_shared [.int (x1), .int (x2), .int (x3)] Iv μ ∨ zThI E kX7_shared kX8_shared [.int (x1), .int (x2), .int (x3)] Iv μ xI 1
  | 20 => zOkI E kX7_kin kX8_kin [.int (x1), .int (x2)] Iv μ ∨ zThI E kX7_kin kX8_kin [.int (x1), .int (x2)] Iv μ xI 1
  | 21 => zOkI E kX7_date kX8_date [.int (x1), .int (x2)] Iv μ ∨ zThI E kX7_date kX8_date [.int (x1), .int (x2)] Iv μ xI 1
  | _ => True
theorem zlt6 {i L : Nat} (hi : i ≤ L) (hL : L ≤ 3072) : (nI L - nI 6 < nI i) ↔ ¬ i + 6 ≤ L := by
  by_cases h : 6 ≤ L
  · rw [pk_sub h, nI_ltI (by omega) (by omega)]
    omega
  · refine ⟨fun _ => by omega, fun _ => ?_⟩
    have h1 : L = 0 ∨ L = 1 ∨ L = 2 ∨ L = 3 ∨ L = 4 ∨ L = 5 := by omega
    rw [Int32.lt_iff_toInt_lt, nI_toInt (by omega)]
    have h2 : (nI L - nI 6).toInt < 0 := by rcases h1 with rfl | rfl | rfl | rfl | rfl | rfl <;> decide
    omega
theorem z_end {E : Nat × (Nat → Int32)} {o : zO} {ls : List Value} {M : zM} {u us pc : Nat} (hu : u ≤ 601024) (hus : us ≤ 7293034) (d : decode (zKc kL_law) pc = .ok (.ireturn, 1)) : zV true E kL_law 0 o pc ls [.int (nI 1)] M u us := by
  intro p l e R s m args below meth c D ca bs b H locs lr hC hR hS hA hn0 hL
  have hRm : R = room_1 := hC.2.2.2.2.2.2.1
  subst hRm
  refine va_forget (fun q hq => ?_) (W.widen hu hus ?_)
  · rcases hS.2.2 q hq with h | h
    · have h1 := h.1
      have h2 := h.2
      omega
    · exact h
  · show W p l e room_1 s m args below meth c H [] 601024 7293034 (lw_Z below args s) (F0 m pc lr [.int 1])
    intro T hT X
    have hr : meth.sig.returnType = ret := hC.2.2.2.2.2.2.2.1
    have hb : c.code = code := hC.2.1
    have hx := hC.1
    have hdg : decode code pc = .ok (.ireturn, 1) := d
    have hlocks : meth.locks = false := hC.2.2.2.2.2.1
    obtain ⟨fs, hret, hrun, hended, hW, hframe⟩ := X.leave (v := some (.int 1)) (hlocks := hlocks) (fun h => by rw [hr] at h; cases h)
    have hmeth' : T.vm.method? m = some meth := X.method'
    refine ⟨T.setFrames fs, ?_, .returned (some (.int 1)), hrun, hended, rfl, ⟨_, rfl⟩, hW, hframe⟩
    jvm_step X.here [X.here.top, hx, hb, hdg, hmeth', hr, ret, narrow_b1]
    (try refine ⟨rfl, ?_⟩); (try refine ⟨rfl, ?_⟩)
    first | (intro acts; rw [hret _ acts rfl rfl rfl]) | rw [hret _ _ rfl rfl rfl]
    exact Steps.refl _
set_option maxRecDepth 100000 in
set_option maxHeartbeats 4000000 in
theorem law_loop {L : Nat} {xs : Nat → Int32} (hL : L ≤ 3072) (Iv : zMu → Prop) (hst : ∀ (w : Nat) (μ : zMu) (i : Nat), w < 22 → Iv μ → i + 6 ≤ L → zAll Iv (L, xs) μ (xs (i + 1)) (xs (i + 2)) (xs (i + 3)) (xs (i + 4)) (xs (i + 5)) w) {o : zO} : ∀ (q i : Nat) (μ : zMu) (g : Int64) (u us : Nat), L - i = q → i ≤ L → u ≤ 145 + 2 * i → us ≤ 5114 + 7 * i → Iv μ → zV true (L, xs) kL_law 0 o 23 [.ref (0), .ref (1), .ref (117), .ref (145), .int (nI i), .null, .null] [] (zm μ g) u us := by
  intro q
  induction q using Nat.strongRecOn with
  | ind q ih =>
    intro i μ g u us hq hi hu hus hI
    refine z_iload rfl dL_law_23 ?_
    refine z_aload_n rfl rfl dL_law_25 ?_
    refine z_slen dL_law_26 ?_
    refine z_bipush (nI 6) (by decide) dL_law_27 ?_
    refine z_isub dL_law_29 ?_
    refine z_icmp_gt 1841 (by decide) dL_law_30 (z_br (zlt6 hi hL) (fun h1 => ?_)) (z_brn (zlt6 hi hL) (fun h1 => ?_))
    · refine z_iconst (nI 1) (by decide) dL_law_1841 ?_
      exact z_end (by omega) (by omega) dL_law_1842
    · have h6 : i + 6 ≤ L := Classical.not_not.mp h1
      have hgo : ∀ (μ2 : zMu) (g2 : Int64) (u9 us9 : Nat), Iv μ2 → u9 ≤ u + 8 → us9 ≤ us + 40 → zV true (L, xs) kL_law 0 o 1835 [.ref (0), .ref (1), .ref (117), .ref (145), .int (nI i), .null, .null] [] (zm μ2 g2) u9 us9 := by
        intro μ2 g2 u9 us9 hI2 k1 k2
        refine z_iinc (nI (i + 6)) rfl (by rw [show Int32.ofInt 6 = nI 6 from rfl, nI_add]) (by decide) rfl dL_law_1835 ?_
        refine z_goto 23 (by decide) dL_law_1838 ?_
        exact ih (L - (i + 6)) (by omega) (i + 6) μ2 g2 u9 us9 rfl (by omega) (by omega) (by omega) hI2
      refine z_aload_n rfl rfl dL_law_33 ?_
      refine z_iload rfl dL_law_34 ?_
      refine m_sld i (by omega) (by omega) dL_law_36 ?_
      refine z_bipush (nI 31) (by decide) dL_law_37 ?_
      refine z_iand dL_law_39 ?_
      rcases zrg_cases 22 (by decide) (xs i &&& nI 31) with hw | ⟨w, hw, ew⟩
      · refine z_tabOut 1835 (by have h9 := zsw hw (by decide); omega) (by decide) dL_law_40 ?_
        exact hgo μ g u us hI (by omega) (by omega)
      · refine m_eqv ew ?_
        have hA := hst w μ i hw hI h6
        have hws : w = 0 ∨ w = 1 ∨ w = 2 ∨ w = 3 ∨ w = 4 ∨ w = 5 ∨ w = 6 ∨ w = 7 ∨ w = 8 ∨ w = 9 ∨ w = 10 ∨ w = 11 ∨ w = 12 ∨ w = 13 ∨ w = 14 ∨ w = 15 ∨ w = 16 ∨ w = 17 ∨ w = 18 ∨ w = 19 ∨ w = 20 ∨ w = 21 := by omega
        rcases hws with rfl | rfl | rfl | rfl | rfl | rfl | rfl | rfl | rfl | rfl | rfl | rfl | rfl | rfl | rfl | rfl | rfl | rfl | rfl | rfl | rfl | rfl
        · refine z_tabIn (104) 144 (by decide) (by decide) (by decide) (by decide) dL_law_40 ?_
          rcases hA with ⟨μ1, μ2, a1, a2, a3, a4⟩ | ⟨μ2, a1, a2, a3, a4⟩ | ⟨μ2, a1, a2, a3, a4⟩ | ⟨μ2, a1, a2, a3, a4⟩
          · exact lk_coast_ok h6 hL (by omega) (by omega) (a1 g) a2 a3 (fun g2 u9 us9 k1 k2 => hgo μ2 g2 u9 us9 a4 k1 k2)
          · exact lk_coast_I (μ1 := μ) h6 hL (by omega) (by omega) (a1 g) a2 a3 (fun g2 u9 us9 k1 k2 => hgo μ2 g2 u9 us9 a4 k1 k2)
          · exact lk_coast_A (μ1 := μ) h6 hL (by omega) (by omega) (a1 g) a2 a3 (fun g2 u9 us9 k1 k2 => hgo μ2 g2 u9 us9 a4 k1 k2)
          · exact lk_coast_S (μ1 := μ) h6 hL (by omega) (by omega) (a1 g) a2 a3 (fun g2 u9 us9 k1 k2 => hgo μ2 g2 u9 us9 a4 k1 k2)
        · refine z_tabIn (188) 228 (by decide) (by decide) (by decide) (by decide) dL_law_40 ?_
          rcases hA with ⟨μ1, μ2, v, a1, a2, a3, a4⟩ | ⟨μ2, w, a1, a2, a3, a4⟩ | ⟨μ2, w, a1, a2, a3, a4⟩
          · exact lk_pilot_ok h6 hL (by omega) (by omega) (a1 g) a2 a3 (fun g2 u9 us9 k1 k2 => hgo μ2 g2 u9 us9 a4 k1 k2)
          · exact lk_pilot_A (μ1 := μ) h6 hL (by omega) (by omega) (a1 g) a2 a3 (fun g2 u9 us9 k1 k2 => hgo μ2 g2 u9 us9 a4 k1 k2)
          · exact lk_pilot_S (μ1 := μ) h6 hL (by omega) (by omega) (a1 g) a2 a3 (fun g2 u9 us9 k1 k2 => hgo μ2 g2 u9 us9 a4 k1 k2)
        · refine z_tabIn (256) 296 (by decide) (by decide) (by decide) (by decide) dL_law_40 ?_
          rcases hA with ⟨μ1, μ2, v, a1, a2, a3, a4⟩ | ⟨μ2, w, a1, a2, a3, a4⟩ | ⟨μ2, w, a1, a2, a3, a4⟩ | ⟨μ2, w, a1, a2, a3, a4⟩
          · exact lk_report_ok h6 hL (by omega) (by omega) (a1 g) a2 a3 (fun g2 u9 us9 k1 k2 => hgo μ2 g2 u9 us9 a4 k1 k2)
          · exact lk_report_I (μ1 := μ) h6 hL (by omega) (by omega) (a1 g) a2 a3 (fun g2 u9 us9 k1 k2 => hgo μ2 g2 u9 us9 a4 k1 k2)
          · exact lk_report_A (μ1 := μ) h6 hL (by omega) (by omega) (a1 g) a2 a3 (fun g2 u9 us9 k1 k2 => hgo μ2 g2 u9 us9 a4 k1 k2)
          · exact lk_report_S (μ1 := μ) h6 hL (by omega) (by omega) (a1 g) a2 a3 (fun g2 u9 us9 k1 k2 => hgo μ2 g2 u9 us9 a4 k1 k2)
        · refine z_tabIn (336) 376 (by decide) (by decide) (by decide) (by decide) dL_law_40 ?_
          rcases hA with ⟨μ1, μ2, v, a1, a2, a3, a4⟩ | ⟨μ2, w, a1, a2, a3, a4⟩ | ⟨μ2, w, a1, a2, a3, a4⟩
          · exact lk_chart_ok h6 hL (by omega) (by omega) (a1 g) a2 a3 (fun g2 u9 us9 k1 k2 => hgo μ2 g2 u9 us9 a4 k1 k2)
          · exact lk_chart_A (μ1 := μ) h6 hL (by omega) (by omega) (a1 g) a2 a3 (fun g2 u9 us9 k1 k2 => hgo μ2 g2 u9 us9 a4 k1 k2)
          · exact lk_chart_S (μ1 := μ) h6 hL (by omega) (by omega) (a1 g) a2 a3 (fun g2 u9 us9 k1 k2 => hgo μ2 g2 u9 us9 a4 k1 k2)
        · refine z_tabIn (404) 444 (by decide) (by decide) (by decide) (by decide) dL_law_40 ?_
          rcases hA with ⟨μ1, μ2, v, a1, a2, a3, a4⟩ | ⟨μ2, w, a1, a2, a3, a4⟩ | ⟨μ2, w, a1, a2, a3, a4⟩
          · exact lk_hand_ok h6 hL (by omega) (by omega) (a1 g) a2 a3 (fun g2 u9 us9 k1 k2 => hgo μ2 g2 u9 us9 a4 k1 k2)
          · exact lk_hand_I (μ1 := μ) h6 hL (by omega) (by omega) (a1 g) a2 a3 (fun g2 u9 us9 k1 k2 => hgo μ2 g2 u9 us9 a4 k1 k2)
          · exact lk_hand_A (μ1 := μ) h6 hL (by omega) (by omega) (a1 g) a2 a3 (fun g2 u9 us9 k1 k2 => hgo μ2 g2 u9 us9 a4 k1 k2)
        · refine z_tabIn (472) 512 (by decide) (by decide) (by decide) (by decide) dL_law_40 ?_
          rcases hA with ⟨μ1, μ2, a1, a2, a3, a4⟩ | ⟨μ2, a1, a2, a3, a4⟩ | ⟨μ2, a1, a2, a3, a4⟩
          · exact lk_reads_ok h6 hL (by omega) (by omega) (a1 g) a2 a3 (fun g2 u9 us9 k1 k2 => hgo μ2 g2 u9 us9 a4 k1 k2)
          · exact lk_reads_I (μ1 := μ) h6 hL (by omega) (by omega) (a1 g) a2 a3 (fun g2 u9 us9 k1 k2 => hgo μ2 g2 u9 us9 a4 k1 k2)
          · exact lk_reads_A (μ1 := μ) h6 hL (by omega) (by omega) (a1 g) a2 a3 (fun g2 u9 us9 k1 k2 => hgo μ2 g2 u9 us9 a4 k1 k2)
        · refine z_tabIn (532) 572 (by decide) (by decide) (by decide) (by decide) dL_law_40 ?_
          rcases hA with ⟨μ1, μ2, v, a1, a2, a3, a4⟩ | ⟨μ2, w, a1, a2, a3, a4⟩ | ⟨μ2, w, a1, a2, a3, a4⟩ | ⟨μ2, w, a1, a2, a3, a4⟩
          · exact lk_copy_ok h6 hL (by omega) (by omega) (a1 g) a2 a3 (fun g2 u9 us9 k1 k2 => hgo μ2 g2 u9 us9 a4 k1 k2)
          · exact lk_copy_I (μ1 := μ) h6 hL (by omega) (by omega) (a1 g) a2 a3 (fun g2 u9 us9 k1 k2 => hgo μ2 g2 u9 us9 a4 k1 k2)
          · exact lk_copy_A (μ1 := μ) h6 hL (by omega) (by omega) (a1 g) a2 a3 (fun g2 u9 us9 k1 k2 => hgo μ2 g2 u9 us9 a4 k1 k2)
          · exact lk_copy_S (μ1 := μ) h6 hL (by omega) (by omega) (a1 g) a2 a3 (fun g2 u9 us9 k1 k2 => hgo μ2 g2 u9 us9 a4 k1 k2)
        · refine z_tabIn (624) 664 (by decide) (by decide) (by decide) (by decide) dL_law_40 ?_
          rcases hA with ⟨μ1, μ2, v, a1, a2, a3, a4⟩ | ⟨μ2, w, a1, a2, a3, a4⟩ | ⟨μ2, w, a1, a2, a3, a4⟩ | ⟨μ2, w, a1, a2, a3, a4⟩
          · exact lk_paste_ok h6 hL (by omega) (by omega) (a1 g) a2 a3 (fun g2 u9 us9 k1 k2 => hgo μ2 g2 u9 us9 a4 k1 k2)
          · exact lk_paste_I (μ1 := μ) h6 hL (by omega) (by omega) (a1 g) a2 a3 (fun g2 u9 us9 k1 k2 => hgo μ2 g2 u9 us9 a4 k1 k2)
          · exact lk_paste_A (μ1 := μ) h6 hL (by omega) (by omega) (a1 g) a2 a3 (fun g2 u9 us9 k1 k2 => hgo μ2 g2 u9 us9 a4 k1 k2)
          · exact lk_paste_S (μ1 := μ) h6 hL (by omega) (by omega) (a1 g) a2 a3 (fun g2 u9 us9 k1 k2 => hgo μ2 g2 u9 us9 a4 k1 k2)
        · refine z_tabIn (716) 756 (by decide) (by decide) (by decide) (by decide) dL_law_40 ?_
          rcases hA with ⟨μ1, μ2, v, a1, a2, a3, a4⟩ | ⟨μ2, w, a1, a2, a3, a4⟩ | ⟨μ2, w, a1, a2, a3, a4⟩ | ⟨μ2, w, a1, a2, a3, a4⟩
          · exact lk_island_ok h6 hL (by omega) (by omega) (a1 g) a2 a3 (fun g2 u9 us9 k1 k2 => hgo μ2 g2 u9 us9 a4 k1 k2)
          · exact lk_island_I (μ1 := μ) h6 hL (by omega) (by omega) (a1 g) a2 a3 (fun g2 u9 us9 k1 k2 => hgo μ2 g2 u9 us9 a4 k1 k2)
          · exact lk_island_A (μ1 := μ) h6 hL (by omega) (by omega) (a1 g) a2 a3 (fun g2 u9 us9 k1 k2 => hgo μ2 g2 u9 us9 a4 k1 k2)
          · exact lk_island_S (μ1 := μ) h6 hL (by omega) (by omega) (a1 g) a2 a3 (fun g2 u9 us9 k1 k2 => hgo μ2 g2 u9 us9 a4 k1 k2)
        · refine z_tabIn (796) 836 (by decide) (by decide) (by decide) (by decide) dL_law_40 ?_
          rcases hA with ⟨μ1, μ2, a1, a2, a3, a4⟩ | ⟨μ2, a1, a2, a3, a4⟩
          · exact lk_exchange_ok h6 hL (by omega) (by omega) (a1 g) a2 a3 (fun g2 u9 us9 k1 k2 => hgo μ2 g2 u9 us9 a4 k1 k2)
          · exact lk_exchange_I (μ1 := μ) h6 hL (by omega) (by omega) (a1 g) a2 a3 (fun g2 u9 us9 k1 k2 => hgo μ2 g2 u9 us9 a4 k1 k2)
        · refine z_tabIn (856) 896 (by decide) (by decide) (by decide) (by decide) dL_law_40 ?_
          by_cases hb : xs (i + 4) = 0
          · have hA2 := hA.1 hb
            rcases hA2 with ⟨μ1, μ2, v, a1, a2, a3, a4⟩ | ⟨μ2, w, a1, a2, a3, a4⟩ | ⟨μ2, w, a1, a2, a3, a4⟩ | ⟨μ2, w, a1, a2, a3, a4⟩
            · exact lk_shrink0_ok h6 hL (by omega) (by omega) hb (a1 g) a2 a3 (fun g2 u9 us9 k1 k2 => hgo μ2 g2 u9 us9 a4 k1 k2)
            · exact lk_shrink0_I (μ1 := μ) h6 hL (by omega) (by omega) hb (a1 g) a2 a3 (fun g2 u9 us9 k1 k2 => hgo μ2 g2 u9 us9 a4 k1 k2)
            · exact lk_shrink0_A (μ1 := μ) h6 hL (by omega) (by omega) hb (a1 g) a2 a3 (fun g2 u9 us9 k1 k2 => hgo μ2 g2 u9 us9 a4 k1 k2)
            · exact lk_shrink0_S (μ1 := μ) h6 hL (by omega) (by omega) hb (a1 g) a2 a3 (fun g2 u9 us9 k1 k2 => hgo μ2 g2 u9 us9 a4 k1 k2)
          · have hA2 := hA.2 hb
            rcases hA2 with ⟨μ1, μ2, v, a1, a2, a3, a4⟩ | ⟨μ2, w, a1, a2, a3, a4⟩ | ⟨μ2, w, a1, a2, a3, a4⟩ | ⟨μ2, w, a1, a2, a3, a4⟩
            · exact lk_shrink1_ok h6 hL (by omega) (by omega) hb (a1 g) a2 a3 (fun g2 u9 us9 k1 k2 => hgo μ2 g2 u9 us9 a4 k1 k2)
            · exact lk_shrink1_I (μ1 := μ) h6 hL (by omega) (by omega) hb (a1 g) a2 a3 (fun g2 u9 us9 k1 k2 => hgo μ2 g2 u9 us9 a4 k1 k2)
            · exact lk_shrink1_A (μ1 := μ) h6 hL (by omega) (by omega) hb (a1 g) a2 a3 (fun g2 u9 us9 k1 k2 => hgo μ2 g2 u9 us9 a4 k1 k2)
            · exact lk_shrink1_S (μ1 := μ) h6 hL (by omega) (by omega) hb (a1 g) a2 a3 (fun g2 u9 us9 k1 k2 => hgo μ2 g2 u9 us9 a4 k1 k2)
        · refine z_tabIn (964) 1004 (by decide) (by decide) (by decide) (by decide) dL_law_40 ?_
          rcases hA with ⟨μ1, μ2, v, a1, a2, a3, a4⟩ | ⟨μ2, w, a1, a2, a3, a4⟩ | ⟨μ2, w, a1, a2, a3, a4⟩
          · exact lk_lose_ok h6 hL (by omega) (by omega) (a1 g) a2 a3 (fun g2 u9 us9 k1 k2 => hgo μ2 g2 u9 us9 a4 k1 k2)
          · exact lk_lose_I (μ1 := μ) h6 hL (by omega) (by omega) (a1 g) a2 a3 (fun g2 u9 us9 k1 k2 => hgo μ2 g2 u9 us9 a4 k1 k2)
          · exact lk_lose_A (μ1 := μ) h6 hL (by omega) (by omega) (a1 g) a2 a3 (fun g2 u9 us9 k1 k2 => hgo μ2 g2 u9 us9 a4 k1 k2)
        · refine z_tabIn (1044) 1084 (by decide) (by decide) (by decide) (by decide) dL_law_40 ?_
          rcases hA with ⟨μ1, μ2, v, a1, a2, a3, a4⟩ | ⟨μ2, w, a1, a2, a3, a4⟩
          · exact lk_paint_ok h6 hL (by omega) (by omega) (a1 g) a2 a3 (fun g2 u9 us9 k1 k2 => hgo μ2 g2 u9 us9 a4 k1 k2)
          · exact lk_paint_I (μ1 := μ) h6 hL (by omega) (by omega) (a1 g) a2 a3 (fun g2 u9 us9 k1 k2 => hgo μ2 g2 u9 us9 a4 k1 k2)
        · refine z_tabIn (1119) 1159 (by decide) (by decide) (by decide) (by decide) dL_law_40 ?_
          by_cases hb : xs (i + 2) = 0
          · have hA2 := hA.1 hb
            rcases hA2 with ⟨μ1, μ2, v, a1, a2, a3, a4⟩ | ⟨μ2, w, a1, a2, a3, a4⟩
            · exact lk_told0_ok h6 hL (by omega) (by omega) hb (a1 g) a2 a3 (fun g2 u9 us9 k1 k2 => hgo μ2 g2 u9 us9 a4 k1 k2)
            · exact lk_told0_I (μ1 := μ) h6 hL (by omega) (by omega) hb (a1 g) a2 a3 (fun g2 u9 us9 k1 k2 => hgo μ2 g2 u9 us9 a4 k1 k2)
          · have hA2 := hA.2 hb
            rcases hA2 with ⟨μ1, μ2, v, a1, a2, a3, a4⟩ | ⟨μ2, w, a1, a2, a3, a4⟩
            · exact lk_told1_ok h6 hL (by omega) (by omega) hb (a1 g) a2 a3 (fun g2 u9 us9 k1 k2 => hgo μ2 g2 u9 us9 a4 k1 k2)
            · exact lk_told1_I (μ1 := μ) h6 hL (by omega) (by omega) hb (a1 g) a2 a3 (fun g2 u9 us9 k1 k2 => hgo μ2 g2 u9 us9 a4 k1 k2)
        · refine z_tabIn (1203) 1243 (by decide) (by decide) (by decide) (by decide) dL_law_40 ?_
          rcases hA with ⟨μ1, μ2, v, a1, a2, a3, a4⟩ | ⟨μ2, w, a1, a2, a3, a4⟩ | ⟨μ2, w, a1, a2, a3, a4⟩
          · exact lk_at_ok h6 hL (by omega) (by omega) (a1 g) a2 a3 (fun g2 u9 us9 k1 k2 => hgo μ2 g2 u9 us9 a4 k1 k2)
          · exact lk_at_I (μ1 := μ) h6 hL (by omega) (by omega) (a1 g) a2 a3 (fun g2 u9 us9 k1 k2 => hgo μ2 g2 u9 us9 a4 k1 k2)
          · exact lk_at_A (μ1 := μ) h6 hL (by omega) (by omega) (a1 g) a2 a3 (fun g2 u9 us9 k1 k2 => hgo μ2 g2 u9 us9 a4 k1 k2)
        · refine z_tabIn (1283) 1323 (by decide) (by decide) (by decide) (by decide) dL_law_40 ?_
          rcases hA with ⟨μ1, μ2, v, a1, a2, a3, a4⟩ | ⟨μ2, w, a1, a2, a3, a4⟩
          · exact lk_chain_ok h6 hL (by omega) (by omega) (a1 g) a2 a3 (fun g2 u9 us9 k1 k2 => hgo μ2 g2 u9 us9 a4 k1 k2)
          · exact lk_chain_I (μ1 := μ) h6 hL (by omega) (by omega) (a1 g) a2 a3 (fun g2 u9 us9 k1 k2 => hgo μ2 g2 u9 us9 a4 k1 k2)
        · refine z_tabIn (1363) 1403 (by decide) (by decide) (by decide) (by decide) dL_law_40 ?_
          rcases hA with ⟨μ1, μ2, v, a1, a2, a3, a4⟩ | ⟨μ2, w, a1, a2, a3, a4⟩ | ⟨μ2, w, a1, a2, a3, a4⟩
          · exact lk_of_ok h6 hL (by omega) (by omega) (a1 g) a2 a3 (fun g2 u9 us9 k1 k2 => hgo μ2 g2 u9 us9 a4 k1 k2)
          · exact lk_of_I (μ1 := μ) h6 hL (by omega) (by omega) (a1 g) a2 a3 (fun g2 u9 us9 k1 k2 => hgo μ2 g2 u9 us9 a4 k1 k2)
          · exact lk_of_A (μ1 := μ) h6 hL (by omega) (by omega) (a1 g) a2 a3 (fun g2 u9 us9 k1 k2 => hgo μ2 g2 u9 us9 a4 k1 k2)
        · refine z_tabIn (1431) 1471 (by decide) (by decide) (by decide) (by decide) dL_law_40 ?_
          rcases hA with ⟨μ1, μ2, v, a1, a2, a3, a4⟩ | ⟨μ2, w, a1, a2, a3, a4⟩ | ⟨μ2, w, a1, a2, a3, a4⟩
          · exact lk_ofIsland_ok h6 hL (by omega) (by omega) (a1 g) a2 a3 (fun g2 u9 us9 k1 k2 => hgo μ2 g2 u9 us9 a4 k1 k2)
          · exact lk_ofIsland_I (μ1 := μ) h6 hL (by omega) (by omega) (a1 g) a2 a3 (fun g2 u9 us9 k1 k2 => hgo μ2 g2 u9 us9 a4 k1 k2)
          · exact lk_ofIsland_A (μ1 := μ) h6 hL (by omega) (by omega) (a1 g) a2 a3 (fun g2 u9 us9 k1 k2 => hgo μ2 g2 u9 us9 a4 k1 k2)
        · refine z_tabIn (1499) 1539 (by decide) (by decide) (by decide) (by decide) dL_law_40 ?_
          rcases hA with ⟨μ1, μ2, v, a1, a2, a3, a4⟩ | ⟨μ2, w, a1, a2, a3, a4⟩ | ⟨μ2, w, a1, a2, a3, a4⟩
          · exact lk_fit_ok h6 hL (by omega) (by omega) (a1 g) a2 a3 (fun g2 u9 us9 k1 k2 => hgo μ2 g2 u9 us9 a4 k1 k2)
          · exact lk_fit_I (μ1 := μ) h6 hL (by omega) (by omega) (a1 g) a2 a3 (fun g2 u9 us9 k1 k2 => hgo μ2 g2 u9 us9 a4 k1 k2)
          · exact lk_fit_A (μ1 := μ) h6 hL (by omega) (by omega) (a1 g) a2 a3 (fun g2 u9 us9 k1 k2 => hgo μ2 g2 u9 us9 a4 k1 k2)
        · refine z_tabIn (1579) 1619 (by decide) (by decide) (by decide) (by decide) dL_law_40 ?_
          rcases hA with ⟨μ1, μ2, v, a1, a2, a3, a4⟩ | ⟨μ2, w, a1, a2, a3, a4⟩
          · exact lk_shared_ok h6 hL (by omega) (by omega) (a1 g) a2 a3 (fun g2 u9 us9 k1 k2 => hgo μ2 g2 u9 us9 a4 k1 k2)
          · exact lk_shared_I (μ1 := μ) h6 hL (by omega) (by omega) (a1 g) a2 a3 (fun g2 u9 us9 k1 k2 => hgo μ2 g2 u9 us9 a4 k1 k2)
        · refine z_tabIn (1659) 1699 (by decide) (by decide) (by decide) (by decide) dL_law_40 ?_
          rcases hA with ⟨μ1, μ2, v, a1, a2, a3, a4⟩ | ⟨μ2, w, a1, a2, a3, a4⟩
          · exact lk_kin_ok h6 hL (by omega) (by omega) (a1 g) a2 a3 (fun g2 u9 us9 k1 k2 => hgo μ2 g2 u9 us9 a4 k1 k2)
          · exact lk_kin_I (μ1 := μ) h6 hL (by omega) (by omega) (a1 g) a2 a3 (fun g2 u9 us9 k1 k2 => hgo μ2 g2 u9 us9 a4 k1 k2)
        · refine z_tabIn (1727) 1767 (by decide) (by decide) (by decide) (by decide) dL_law_40 ?_
          rcases hA with ⟨μ1, μ2, v, a1, a2, a3, a4⟩ | ⟨μ2, w, a1, a2, a3, a4⟩
          · exact lk_date_ok h6 hL (by omega) (by omega) (a1 g) a2 a3 (fun g2 u9 us9 k1 k2 => hgo μ2 g2 u9 us9 a4 k1 k2)
          · exact lk_date_I (μ1 := μ) h6 hL (by omega) (by omega) (a1 g) a2 a3 (fun g2 u9 us9 k1 k2 => hgo μ2 g2 u9 us9 a4 k1 k2)
