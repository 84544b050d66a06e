/-! a turn of the law: shrink (printed by wip/p25/gen_6.py) -/
set_option maxRecDepth 100000 in
set_option maxHeartbeats 4000000 in
theorem lp_G1 {E : Nat × (Nat → Int32)} (hE : E.1 ≤ 260) {o : zO} {J : Nat → Nat} {μ ν : zMu} {nc nr ni : Nat} {rf rt : Nat → Nat} (hI : iv μ ν nc nr ni rf rt) {at9 tn kd c : Nat} (hc : c < nc) {z q : Int32} {u us : Nat} (hu : u ≤ 70100) (hus : us ≤ 64 * u + 1000)  {h : Nat} (h120 : h ≤ 120) (kk : ∀ b, sB b (∀ i, i < 8 → cshP μ c (nI h) i) → zV true E kL_law 0 o 2244 (.ref (0) :: .ref (1) :: .ref (J 0) :: .ref (J 1) :: .ref (J 2) :: .ref (J 3) :: .ref (J 4) :: .ref (J 5) :: .ref (J 6) :: .ref (J 7) :: .ref (J 8) :: .int (nI at9) :: .ref (J 9) :: .ref (J 10) :: .int (nI nr) :: .int (nI nc) :: .int (nI ni) :: .int (nI tn) :: .int (z) :: .int (q) :: .int (nI kd) :: .int (nI c) :: .int (nI h) :: .int (nI b) :: .null :: .null :: .null :: .null :: .null :: .null :: .null :: .null :: .null :: []) [] (zm μ (J, 11, ν)) u us) : ∀ (n : Nat) (p b : Nat), 8 - p = n → p ≤ 8 → sB b (∀ i, i < p → cshP μ c (nI h) i) → zV true E kL_law 0 o 2153 (.ref (0) :: .ref (1) :: .ref (J 0) :: .ref (J 1) :: .ref (J 2) :: .ref (J 3) :: .ref (J 4) :: .ref (J 5) :: .ref (J 6) :: .ref (J 7) :: .ref (J 8) :: .int (nI at9) :: .ref (J 9) :: .ref (J 10) :: .int (nI nr) :: .int (nI nc) :: .int (nI ni) :: .int (nI tn) :: .int (z) :: .int (q) :: .int (nI kd) :: .int (nI c) :: .int (nI h) :: .int (nI b) :: .int (nI p) :: .null :: .null :: .null :: .null :: .null :: .null :: .null :: .null :: []) [] (zm μ (J, 11, ν)) u us := by
  intro n
  induction n using Nat.strongRecOn with
  | ind n ih =>
    intro p b e h8 hb
    obtain ⟨⟨⟨hnc, hn5⟩, ⟨hnr, h6, h13⟩, ⟨hni, hn4⟩⟩, hT, hL, hY, hB, hK, hA⟩ := id hI
    have hn12 : nc ≤ 12 := by omega
    have hb1 := sB_le hb
    refine z_iload rfl dL_law_2153 ?_
    refine z_bipush (nI 8) (by decide) dL_law_2155 ?_
    refine z_icmp_ge 2244 (by decide) dL_law_2157 (z_br (zcn (n := 8) (by omega) (p) (by omega)).2.2 (fun h2157t => ?_)) (z_brn (zcn (n := 8) (by omega) (p) (by omega)).2.2 (fun h2157f => ?_))
    · obtain rfl : p = 8 := by omega
      refine z_fgt (.ref (0) :: .ref (1) :: .ref (J 0) :: .ref (J 1) :: .ref (J 2) :: .ref (J 3) :: .ref (J 4) :: .ref (J 5) :: .ref (J 6) :: .ref (J 7) :: .ref (J 8) :: .int (nI at9) :: .ref (J 9) :: .ref (J 10) :: .int (nI nr) :: .int (nI nc) :: .int (nI ni) :: .int (nI tn) :: .int (z) :: .int (q) :: .int (nI kd) :: .int (nI c) :: .int (nI h) :: .int (nI b) :: .null :: .null :: .null :: .null :: .null :: .null :: .null :: .null :: .null :: []) ⟨Or.inl rfl, ⟨Or.inl rfl, ⟨Or.inl rfl, ⟨Or.inl rfl, ⟨Or.inl rfl, ⟨Or.inl rfl, ⟨Or.inl rfl, ⟨Or.inl rfl, ⟨Or.inl rfl, ⟨Or.inl rfl, ⟨Or.inl rfl, ⟨Or.inl rfl, ⟨Or.inl rfl, ⟨Or.inl rfl, ⟨Or.inl rfl, ⟨Or.inl rfl, ⟨Or.inl rfl, ⟨Or.inl rfl, ⟨Or.inl rfl, ⟨Or.inl rfl, ⟨Or.inl rfl, ⟨Or.inl rfl, ⟨Or.inl rfl, ⟨Or.inl rfl, ⟨Or.inr rfl, ⟨Or.inl rfl, ⟨Or.inl rfl, ⟨Or.inl rfl, ⟨Or.inl rfl, ⟨Or.inl rfl, ⟨Or.inl rfl, ⟨Or.inl rfl, ⟨Or.inl rfl, trivial⟩⟩⟩⟩⟩⟩⟩⟩⟩⟩⟩⟩⟩⟩⟩⟩⟩⟩⟩⟩⟩⟩⟩⟩⟩⟩⟩⟩⟩⟩⟩⟩⟩ ?_
      exact kk b hb
    · have hP := (hK c hc).2.2.1 p (by omega)
      have hq := iP_kn hn5 (by omega) hP
      have hl := iP_le hn5 hP
      refine z_aload rfl dL_law_2160 ?_
      refine z_bipush (nI 10) (by decide) dL_law_2162 ?_
      refine z_iload rfl dL_law_2164 ?_
      refine m_mulN dL_law_2166 ?_
      refine z_iload rfl dL_law_2167 ?_
      refine m_addN dL_law_2169 ?_
      refine m_xald 3 ((10 * c) + p) 64 rfl (by decide) rfl (by omega) (by decide) dL_law_2170 ?_
      refine z_bipush (-2) (by decide) dL_law_2171 ?_
      refine z_icmp_le 2238 (by decide) dL_law_2173 (fun h2173t => ?_) (fun h2173f => ?_)
      · refine z_iinc (nI (p + 1)) rfl (zincN _ 1) (by decide) rfl dL_law_2238 ?_
        refine z_goto 2153 (by decide) dL_law_2241 ?_
        exact ih (8 - (p + 1)) (by omega) (p + 1) b rfl (by omega) (sB_c ⟨fun w => all_s.mpr ⟨w, fun zk => absurd (hl.mp h2173t) (hq.mp zk)⟩, fun w => (all_s.mp w).1⟩ hb)
      · have hz : zkn μ c p := hq.mpr (fun w => h2173f (hl.mpr w))
        obtain ⟨a1, a2, r1, r2⟩ : μ (34 + 7 * c) p = ν 0 (10 * c + p) ∧ μ (35 + 7 * c) p = ν 1 (10 * c + p) ∧ rb 1000000 (ν 0 (10 * c + p) * nI h / nI 100) ∧ rb 1000000 (ν 1 (10 * c + p) * nI h / nI 100) := by
          rcases hP.2 with ⟨q1, -⟩ | ⟨q1, q2, q3, q4, q5, q6⟩
          · exact absurd (hl.mpr q1) h2173f
          · have r0 : rb 120 (nI h) := rb_m (rb_nI (by omega)) h120
            exact ⟨q2, q3, rb_div (d := 100) (rb_mul (rb_m q5 (show _ ≤ 42000 by omega)) r0 (Nat.le_refl 5040000) (by omega)) (by omega) (by decide), rb_div (d := 100) (rb_mul (rb_m q6 (show _ ≤ 42000 by omega)) r0 (Nat.le_refl 5040000) (by omega)) (by omega) (by decide)⟩
        refine z_iload rfl dL_law_2176 ?_
        refine z_if_eq 2235 (by decide) dL_law_2178 (z_br (z0e (n := b) (by omega)) (fun h2178t => ?_)) (z_brn (z0e (n := b) (by omega)) (fun h2178f => ?_))
        · refine z_iconst (nI 0) (by decide) dL_law_2235 ?_
          refine z_istore (by decide) rfl dL_law_2236 ?_
          refine z_iinc (nI (p + 1)) rfl (zincN _ 1) (by decide) rfl dL_law_2238 ?_
          refine z_goto 2153 (by decide) dL_law_2241 ?_
          exact ih (8 - (p + 1)) (by omega) (p + 1) 0 rfl (by omega) (Or.inr ⟨rfl, fun w => sB_0 hb h2178t (all_s.mp w).1⟩)
        · refine z_aload_n rfl rfl dL_law_2181 ?_
          refine z_bipush (nI 10) (by decide) dL_law_2182 ?_
          refine z_iload rfl dL_law_2184 ?_
          refine m_mulN dL_law_2186 ?_
          refine z_iload rfl dL_law_2187 ?_
          refine m_addN dL_law_2189 ?_
          refine m_xald 0 ((10 * c) + p) 64 rfl (by decide) rfl (by omega) (by decide) dL_law_2190 ?_
          refine z_iload rfl dL_law_2191 ?_
          refine z_imul dL_law_2193 ?_
          refine z_bipush (nI 100) (by decide) dL_law_2194 ?_
          refine z_idiv (by decide) dL_law_2196 ?_
          refine z_callS (as := [.int (((ν 0 ((10 * c) + p)) * (nI h)) / (nI 100))]) (ct_L_size (((ν 0 ((10 * c) + p)) * (nI h)) / (nI 100))) ko_L_size kl_L_34 rfl rfl ⟨by decide, by decide, by show u + 0 ≤ 600086; omega, by show us + 0 ≤ 7301442; omega⟩ (Nat.le_of_ble_eq_true rfl) rfl dL_law_2197 ?_
          show zV true E kL_law 0 o 2200 (.ref (0) :: .ref (1) :: .ref (J 0) :: .ref (J 1) :: .ref (J 2) :: .ref (J 3) :: .ref (J 4) :: .ref (J 5) :: .ref (J 6) :: .ref (J 7) :: .ref (J 8) :: .int (nI at9) :: .ref (J 9) :: .ref (J 10) :: .int (nI nr) :: .int (nI nc) :: .int (nI ni) :: .int (nI tn) :: .int (z) :: .int (q) :: .int (nI kd) :: .int (nI c) :: .int (nI h) :: .int (nI b) :: .int (nI p) :: .null :: .null :: .null :: .null :: .null :: .null :: .null :: .null :: []) [.int (zab (((ν 0 ((10 * c) + p)) * (nI h)) / (nI 100)))] (zm μ (J, 11, ν)) (u + 0) (us + 0)
          refine z_sipush (nI 10000) (by decide) dL_law_2200 ?_
          refine z_icmp_ge 2235 (by decide) dL_law_2203 (fun h2203t => ?_) (fun h2203f => ?_)
          · refine z_iconst (nI 0) (by decide) dL_law_2235 ?_
            refine z_istore (by decide) rfl dL_law_2236 ?_
            refine z_iinc (nI (p + 1)) rfl (zincN _ 1) (by decide) rfl dL_law_2238 ?_
            refine z_goto 2153 (by decide) dL_law_2241 ?_
            exact ih (8 - (p + 1)) (by omega) (p + 1) 0 rfl (by omega) (Or.inr ⟨rfl, fun w => (zab_in r1).mpr (by have g := ((all_s.mp w).2 hz).1; rw [a1] at g; exact g) h2203t⟩)
          · refine z_aload_n rfl rfl dL_law_2206 ?_
            refine z_bipush (nI 10) (by decide) dL_law_2207 ?_
            refine z_iload rfl dL_law_2209 ?_
            refine m_mulN dL_law_2211 ?_
            refine z_iload rfl dL_law_2212 ?_
            refine m_addN dL_law_2214 ?_
            refine m_xald 1 ((10 * c) + p) 64 rfl (by decide) rfl (by omega) (by decide) dL_law_2215 ?_
            refine z_iload rfl dL_law_2216 ?_
            refine z_imul dL_law_2218 ?_
            refine z_bipush (nI 100) (by decide) dL_law_2219 ?_
            refine z_idiv (by decide) dL_law_2221 ?_
            refine z_callS (as := [.int (((ν 1 ((10 * c) + p)) * (nI h)) / (nI 100))]) (ct_L_size (((ν 1 ((10 * c) + p)) * (nI h)) / (nI 100))) ko_L_size kl_L_34 rfl rfl ⟨by decide, by decide, by show u + 0 + 0 ≤ 600086; omega, by show us + 0 + 0 ≤ 7301442; omega⟩ (Nat.le_of_ble_eq_true rfl) rfl dL_law_2222 ?_
            show zV true E kL_law 0 o 2225 (.ref (0) :: .ref (1) :: .ref (J 0) :: .ref (J 1) :: .ref (J 2) :: .ref (J 3) :: .ref (J 4) :: .ref (J 5) :: .ref (J 6) :: .ref (J 7) :: .ref (J 8) :: .int (nI at9) :: .ref (J 9) :: .ref (J 10) :: .int (nI nr) :: .int (nI nc) :: .int (nI ni) :: .int (nI tn) :: .int (z) :: .int (q) :: .int (nI kd) :: .int (nI c) :: .int (nI h) :: .int (nI b) :: .int (nI p) :: .null :: .null :: .null :: .null :: .null :: .null :: .null :: .null :: []) [.int (zab (((ν 1 ((10 * c) + p)) * (nI h)) / (nI 100)))] (zm μ (J, 11, ν)) (u + 0 + 0) (us + 0 + 0)
            refine z_sipush (nI 10000) (by decide) dL_law_2225 ?_
            refine z_icmp_ge 2235 (by decide) dL_law_2228 (fun h2228t => ?_) (fun h2228f => ?_)
            · refine z_iconst (nI 0) (by decide) dL_law_2235 ?_
              refine z_istore (by decide) rfl dL_law_2236 ?_
              refine z_iinc (nI (p + 1)) rfl (zincN _ 1) (by decide) rfl dL_law_2238 ?_
              refine z_goto 2153 (by decide) dL_law_2241 ?_
              exact ih (8 - (p + 1)) (by omega) (p + 1) 0 rfl (by omega) (Or.inr ⟨rfl, fun w => (zab_in r2).mpr (by have g := ((all_s.mp w).2 hz).2; rw [a2] at g; exact g) h2228t⟩)
            · refine z_iconst (nI 1) (by decide) dL_law_2231 ?_
              refine z_goto 2236 (by decide) dL_law_2232 ?_
              refine z_istore (by decide) rfl dL_law_2236 ?_
              refine z_iinc (nI (p + 1)) rfl (zincN _ 1) (by decide) rfl dL_law_2238 ?_
              refine z_goto 2153 (by decide) dL_law_2241 ?_
              exact ih (8 - (p + 1)) (by omega) (p + 1) 1 rfl (by omega) (Or.inl ⟨rfl, all_s.mpr ⟨sB_1 hb h2178f, fun _ => ⟨by rw [a1]; exact (zab_in r1).mp h2203f, by rw [a2]; exact (zab_in r2).mp h2228f⟩⟩⟩)
set_option maxRecDepth 100000 in
set_option maxHeartbeats 4000000 in
theorem lp_G2 {E : Nat × (Nat → Int32)} (hE : E.1 ≤ 260) {o : zO} {J : Nat → Nat} {μ ν : zMu} {nc nr ni at9 tn kd c : Nat} (hc : c < 5) {z q : Int32} {u us : Nat}  {h : Nat} (kk : zV true E kL_law 0 o 2341 (.ref (0) :: .ref (1) :: .ref (J 0) :: .ref (J 1) :: .ref (J 2) :: .ref (J 3) :: .ref (J 4) :: .ref (J 5) :: .ref (J 6) :: .ref (J 7) :: .ref (J 8) :: .int (nI at9) :: .ref (J 9) :: .ref (J 10) :: .int (nI nr) :: .int (nI nc) :: .int (nI ni) :: .int (nI tn) :: .int (z) :: .int (q) :: .int (nI kd) :: .int (nI c) :: .int (nI h) :: .int (nI 1) :: .null :: .null :: .null :: .null :: .null :: .null :: .null :: .null :: .null :: []) [] (zm μ (J, 11, (zit (lshr c (nI h)) 0 8 ν))) u us) : ∀ (n : Nat) (p : Nat), 8 - p = n → p ≤ 8 → zV true E kL_law 0 o 2271 (.ref (0) :: .ref (1) :: .ref (J 0) :: .ref (J 1) :: .ref (J 2) :: .ref (J 3) :: .ref (J 4) :: .ref (J 5) :: .ref (J 6) :: .ref (J 7) :: .ref (J 8) :: .int (nI at9) :: .ref (J 9) :: .ref (J 10) :: .int (nI nr) :: .int (nI nc) :: .int (nI ni) :: .int (nI tn) :: .int (z) :: .int (q) :: .int (nI kd) :: .int (nI c) :: .int (nI h) :: .int (nI 1) :: .int (nI p) :: .null :: .null :: .null :: .null :: .null :: .null :: .null :: .null :: []) [] (zm μ (J, 11, (zit (lshr c (nI h)) 0 p ν))) u us := by
  intro n
  induction n using Nat.strongRecOn with
  | ind n ih =>
    intro p e h8
    refine z_iload rfl dL_law_2271 ?_
    refine z_bipush (nI 8) (by decide) dL_law_2273 ?_
    refine z_icmp_ge 2341 (by decide) dL_law_2275 (z_br (zcn (n := 8) (by omega) (p) (by omega)).2.2 (fun h2275t => ?_)) (z_brn (zcn (n := 8) (by omega) (p) (by omega)).2.2 (fun h2275f => ?_))
    · obtain rfl : p = 8 := by omega
      refine z_fgt (.ref (0) :: .ref (1) :: .ref (J 0) :: .ref (J 1) :: .ref (J 2) :: .ref (J 3) :: .ref (J 4) :: .ref (J 5) :: .ref (J 6) :: .ref (J 7) :: .ref (J 8) :: .int (nI at9) :: .ref (J 9) :: .ref (J 10) :: .int (nI nr) :: .int (nI nc) :: .int (nI ni) :: .int (nI tn) :: .int (z) :: .int (q) :: .int (nI kd) :: .int (nI c) :: .int (nI h) :: .int (nI 1) :: .null :: .null :: .null :: .null :: .null :: .null :: .null :: .null :: .null :: []) ⟨Or.inl rfl, ⟨Or.inl rfl, ⟨Or.inl rfl, ⟨Or.inl rfl, ⟨Or.inl rfl, ⟨Or.inl rfl, ⟨Or.inl rfl, ⟨Or.inl rfl, ⟨Or.inl rfl, ⟨Or.inl rfl, ⟨Or.inl rfl, ⟨Or.inl rfl, ⟨Or.inl rfl, ⟨Or.inl rfl, ⟨Or.inl rfl, ⟨Or.inl rfl, ⟨Or.inl rfl, ⟨Or.inl rfl, ⟨Or.inl rfl, ⟨Or.inl rfl, ⟨Or.inl rfl, ⟨Or.inl rfl, ⟨Or.inl rfl, ⟨Or.inl rfl, ⟨Or.inr rfl, ⟨Or.inl rfl, ⟨Or.inl rfl, ⟨Or.inl rfl, ⟨Or.inl rfl, ⟨Or.inl rfl, ⟨Or.inl rfl, ⟨Or.inl rfl, ⟨Or.inl rfl, trivial⟩⟩⟩⟩⟩⟩⟩⟩⟩⟩⟩⟩⟩⟩⟩⟩⟩⟩⟩⟩⟩⟩⟩⟩⟩⟩⟩⟩⟩⟩⟩⟩⟩ ?_
      exact kk
    · refine z_iload rfl dL_law_2278 ?_
      refine z_if_eq 2341 (by decide) dL_law_2280 (fun h => absurd h (by decide)) (fun _ => ?_)
      refine z_aload_n rfl rfl dL_law_2283 ?_
      refine z_bipush (nI 10) (by decide) dL_law_2284 ?_
      refine z_iload rfl dL_law_2286 ?_
      refine m_mulN dL_law_2288 ?_
      refine z_iload rfl dL_law_2289 ?_
      refine m_addN dL_law_2291 ?_
      refine z_aload_n rfl rfl dL_law_2292 ?_
      refine z_bipush (nI 10) (by decide) dL_law_2293 ?_
      refine z_iload rfl dL_law_2295 ?_
      refine m_mulN dL_law_2297 ?_
      refine z_iload rfl dL_law_2298 ?_
      refine m_addN dL_law_2300 ?_
      refine m_xald 0 ((10 * c) + p) 64 rfl (by decide) rfl (by omega) (by decide) dL_law_2301 ?_
      refine z_iload rfl dL_law_2302 ?_
      refine z_imul dL_law_2304 ?_
      refine z_bipush (nI 100) (by decide) dL_law_2305 ?_
      refine z_idiv (by decide) dL_law_2307 ?_
      refine m_xast 0 ((10 * c) + p) 64 rfl (by decide) rfl (by omega) (by decide) dL_law_2308 ?_
      refine z_aload_n rfl rfl dL_law_2309 ?_
      refine z_bipush (nI 10) (by decide) dL_law_2310 ?_
      refine z_iload rfl dL_law_2312 ?_
      refine m_mulN dL_law_2314 ?_
      refine z_iload rfl dL_law_2315 ?_
      refine m_addN dL_law_2317 ?_
      refine z_aload_n rfl rfl dL_law_2318 ?_
      refine z_bipush (nI 10) (by decide) dL_law_2319 ?_
      refine z_iload rfl dL_law_2321 ?_
      refine m_mulN dL_law_2323 ?_
      refine z_iload rfl dL_law_2324 ?_
      refine m_addN dL_law_2326 ?_
      refine m_xald 1 ((10 * c) + p) 64 rfl (by decide) rfl (by omega) (by decide) dL_law_2327 ?_
      refine z_iload rfl dL_law_2328 ?_
      refine z_imul dL_law_2330 ?_
      refine z_bipush (nI 100) (by decide) dL_law_2331 ?_
      refine z_idiv (by decide) dL_law_2333 ?_
      refine m_xast 1 ((10 * c) + p) 64 rfl (by decide) rfl (by omega) (by decide) dL_law_2334 ?_
      refine z_iinc (nI (p + 1)) rfl (zincN _ 1) (by decide) rfl dL_law_2335 ?_
      refine z_goto 2271 (by decide) dL_law_2338 ?_
      show zV true E kL_law 0 o 2271 (.ref (0) :: .ref (1) :: .ref (J 0) :: .ref (J 1) :: .ref (J 2) :: .ref (J 3) :: .ref (J 4) :: .ref (J 5) :: .ref (J 6) :: .ref (J 7) :: .ref (J 8) :: .int (nI at9) :: .ref (J 9) :: .ref (J 10) :: .int (nI nr) :: .int (nI nc) :: .int (nI ni) :: .int (nI tn) :: .int (z) :: .int (q) :: .int (nI kd) :: .int (nI c) :: .int (nI h) :: .int (nI 1) :: .int (nI (p + 1)) :: .null :: .null :: .null :: .null :: .null :: .null :: .null :: .null :: []) [] (zm μ (J, 11, (lshr c (nI h) p (zit (lshr c (nI h)) 0 p ν)))) u us
      rw [← lshr_n]
      exact ih (8 - (p + 1)) (by omega) (p + 1) rfl (by omega)
set_option maxRecDepth 100000 in
set_option maxHeartbeats 4000000 in
theorem sc_shrink {E : Nat × (Nat → Int32)} (hE : E.1 ≤ 260) {o : zO} {J : Nat → Nat} {μ ν : zMu} {nc nr ni : Nat} {rf rt : Nat → Nat} (hI : iv μ ν nc nr ni rf rt) {at9 tn kd c : Nat} (hc : c < nc) {z q : Int32} {u us : Nat} (hu : u ≤ 70000) (hus : us ≤ 64 * u) (kk : ∀ (μ2 ν2 : zMu) (nc2 ni2 u2 us2 : Nat), iv μ2 ν2 nc2 nr ni2 rf rt → u2 ≤ u + 200 → us2 ≤ 64 * u2 → zV true E kL_law 0 o 2482 (.ref (0) :: .ref (1) :: .ref (J 0) :: .ref (J 1) :: .ref (J 2) :: .ref (J 3) :: .ref (J 4) :: .ref (J 5) :: .ref (J 6) :: .ref (J 7) :: .ref (J 8) :: .int (nI at9) :: .ref (J 9) :: .ref (J 10) :: .int (nI nr) :: .int (nI nc2) :: .int (nI ni2) :: .int (nI tn) :: .null :: .null :: .null :: .null :: .null :: .null :: .null :: .null :: .null :: .null :: .null :: .null :: .null :: .null :: .null :: []) [] (zm μ2 (J, 11, ν2)) u2 us2) : zV true E kL_law 0 o 2135 (.ref (0) :: .ref (1) :: .ref (J 0) :: .ref (J 1) :: .ref (J 2) :: .ref (J 3) :: .ref (J 4) :: .ref (J 5) :: .ref (J 6) :: .ref (J 7) :: .ref (J 8) :: .int (nI at9) :: .ref (J 9) :: .ref (J 10) :: .int (nI nr) :: .int (nI nc) :: .int (nI ni) :: .int (nI tn) :: .int (z) :: .int (q) :: .int (nI kd) :: .int (nI c) :: .null :: .null :: .null :: .null :: .null :: .null :: .null :: .null :: .null :: .null :: .null :: []) [] (zm μ (J, 11, ν)) u us := by
  obtain ⟨⟨⟨hnc, hn5⟩, ⟨hnr, h6, h13⟩, ⟨hni, hn4⟩⟩, hT, hL, hY, hB, hK, hA⟩ := id hI
  have hn12 : nc ≤ 12 := by omega
  refine z_bipush (nI 80) (by decide) dL_law_2135 ?_
  refine z_iload rfl dL_law_2137 ?_
  refine z_bipush (nI 41) (by decide) dL_law_2139 ?_
  obtain ⟨k2141, hk2141, hl2141⟩ := ct_L_low (E := E) (μ := μ) (J := J) (m := 11) (ν := ν) (q) (n := 41) (by omega) (by omega)
  refine z_callS (as := [.int (q), .int (nI 41)]) hl2141 ko_L_low kl_L_57 rfl rfl ⟨by decide, by decide, by show u + 0 ≤ 600086; omega, by show us + 0 ≤ 7301442; omega⟩ (Nat.le_of_ble_eq_true rfl) rfl dL_law_2141 ?_
  show zV true E kL_law 0 o 2144 (.ref (0) :: .ref (1) :: .ref (J 0) :: .ref (J 1) :: .ref (J 2) :: .ref (J 3) :: .ref (J 4) :: .ref (J 5) :: .ref (J 6) :: .ref (J 7) :: .ref (J 8) :: .int (nI at9) :: .ref (J 9) :: .ref (J 10) :: .int (nI nr) :: .int (nI nc) :: .int (nI ni) :: .int (nI tn) :: .int (z) :: .int (q) :: .int (nI kd) :: .int (nI c) :: .null :: .null :: .null :: .null :: .null :: .null :: .null :: .null :: .null :: .null :: .null :: []) [.int (nI k2141), .int (nI 80)] (zm μ (J, 11, ν)) (u + 0) (us + 0)
  refine m_addN dL_law_2144 ?_
  refine z_istore (by decide) rfl dL_law_2145 ?_
  refine z_iconst (nI 1) (by decide) dL_law_2147 ?_
  refine z_istore (by decide) rfl dL_law_2148 ?_
  refine z_iconst (nI 0) (by decide) dL_law_2150 ?_
  refine z_istore (by decide) rfl dL_law_2151 ?_
  refine lp_G1 hE hI hc (z := z) (q := q) (by omega) (by omega) (h := 80 + k2141) (by omega) (fun b hb => ?_) _ 0 1 rfl (by omega) (Or.inl ⟨rfl, fun i hi => absurd hi (Nat.not_lt_zero i)⟩)
  rcases hb with ⟨rfl, hQ⟩ | ⟨rfl, hQ⟩
  · refine z_aload_n rfl rfl dL_law_2244 ?_
    refine z_iload rfl dL_law_2245 ?_
    refine z_iload rfl dL_law_2247 ?_
    refine z_callSX (as := [.ref (1), .int (nI c), .int (nI (80 + k2141))]) (ct_L_shrunk (v := nI 100) (by have h := ct_X7_shrink0 (E := E) (μ := μ) (g := (J, 11, ν)) hnc hn12 (c := c) (by omega) (b := 0) (by omega) (h := nI (80 + k2141)); rw [if_neg (fun q => q ⟨fun w => by have := (nI_ltI (a := 80 + k2141) (b := 50) (by omega) (by omega)).mp w; omega, (nI_leI (a := 80 + k2141) (b := 200) (by omega) (by omega)).mpr (by omega)⟩), if_neg (zB_n.mpr (fun i hi => by rw [Nat.zero_mul, Nat.zero_add]; exact hQ i hi)), shr_38 hc hK] at h; exact h)) ko_L_shrunk kl_L_97 rfl rfl ⟨by decide, by decide, by show u + 0 + 3 ≤ 600086; omega, by show us + 0 + 18 ≤ 7301442; omega⟩ (Nat.le_of_ble_eq_true rfl) rfl dL_law_2249 ?_
    show zV true E kL_law 0 o 2252 (.ref (0) :: .ref (1) :: .ref (J 0) :: .ref (J 1) :: .ref (J 2) :: .ref (J 3) :: .ref (J 4) :: .ref (J 5) :: .ref (J 6) :: .ref (J 7) :: .ref (J 8) :: .int (nI at9) :: .ref (J 9) :: .ref (J 10) :: .int (nI nr) :: .int (nI nc) :: .int (nI ni) :: .int (nI tn) :: .int (z) :: .int (q) :: .int (nI kd) :: .int (nI c) :: .int (nI (80 + k2141)) :: .int (nI 1) :: .null :: .null :: .null :: .null :: .null :: .null :: .null :: .null :: .null :: []) [.int (nI 100)] (zm (zit (cshr c (nI (80 + k2141))) 0 8 μ) (J, 11, ν)) (u + 0 + 3) (us + 0 + 18)
    refine z_iload rfl dL_law_2252 ?_
    refine z_if_eq 2262 (by decide) dL_law_2254 (fun h => absurd h (by decide)) (fun _ => ?_)
    refine z_bipush (nI 100) (by decide) dL_law_2257 ?_
    refine z_goto 2263 (by decide) dL_law_2259 ?_
    refine z_icmp_eq 2268 (by decide) dL_law_2263 (fun _ => ?_) (fun h => absurd h (by decide))
    refine z_iconst (nI 0) (by decide) dL_law_2268 ?_
    refine z_istore (by decide) rfl dL_law_2269 ?_
    refine lp_G2 hE (ν := ν) (c := c) (by omega) (z := z) (q := q) (h := 80 + k2141) ?_ _ 0 rfl (by omega)
    refine z_goto 2482 (by decide) dL_law_2341 ?_
    refine z_fgt (.ref (0) :: .ref (1) :: .ref (J 0) :: .ref (J 1) :: .ref (J 2) :: .ref (J 3) :: .ref (J 4) :: .ref (J 5) :: .ref (J 6) :: .ref (J 7) :: .ref (J 8) :: .int (nI at9) :: .ref (J 9) :: .ref (J 10) :: .int (nI nr) :: .int (nI nc) :: .int (nI ni) :: .int (nI tn) :: .null :: .null :: .null :: .null :: .null :: .null :: .null :: .null :: .null :: .null :: .null :: .null :: .null :: .null :: .null :: []) ⟨Or.inl rfl, ⟨Or.inl rfl, ⟨Or.inl rfl, ⟨Or.inl rfl, ⟨Or.inl rfl, ⟨Or.inl rfl, ⟨Or.inl rfl, ⟨Or.inl rfl, ⟨Or.inl rfl, ⟨Or.inl rfl, ⟨Or.inl rfl, ⟨Or.inl rfl, ⟨Or.inl rfl, ⟨Or.inl rfl, ⟨Or.inl rfl, ⟨Or.inl rfl, ⟨Or.inl rfl, ⟨Or.inl rfl, ⟨Or.inr rfl, ⟨Or.inr rfl, ⟨Or.inr rfl, ⟨Or.inr rfl, ⟨Or.inr rfl, ⟨Or.inr rfl, ⟨Or.inl rfl, ⟨Or.inl rfl, ⟨Or.inl rfl, ⟨Or.inl rfl, ⟨Or.inl rfl, ⟨Or.inl rfl, ⟨Or.inl rfl, ⟨Or.inl rfl, ⟨Or.inl rfl, trivial⟩⟩⟩⟩⟩⟩⟩⟩⟩⟩⟩⟩⟩⟩⟩⟩⟩⟩⟩⟩⟩⟩⟩⟩⟩⟩⟩⟩⟩⟩⟩⟩⟩ ?_
    exact kk _ _ _ _ _ _ (v_shrink hI hc hQ) (by show u + 0 + 3 ≤ _; omega) (by show us + 0 + 18 ≤ 64 * (u + 0 + 3); omega)
  · refine z_aload_n rfl rfl dL_law_2244 ?_
    refine z_iload rfl dL_law_2245 ?_
    refine z_iload rfl dL_law_2247 ?_
    refine z_callSX (as := [.ref (1), .int (nI c), .int (nI (80 + k2141))]) (ctx_L_shrunk (by have h := ct_X7_shrink0 (E := E) (μ := μ) (g := (J, 11, ν)) hnc hn12 (c := c) (by omega) (b := 0) (by omega) (h := nI (80 + k2141)); rw [if_neg (fun q => q ⟨fun w => by have := (nI_ltI (a := 80 + k2141) (b := 50) (by omega) (by omega)).mp w; omega, (nI_leI (a := 80 + k2141) (b := 200) (by omega) (by omega)).mpr (by omega)⟩), if_pos (zB_0.mpr (fun w => hQ (fun i hi => by have g := w i hi; rw [Nat.zero_mul, Nat.zero_add] at g; exact g)))] at h; exact h)) ko_L_shrunk kl_L_97 rfl rfl ⟨by decide, by decide, by show u + 0 + 3 ≤ 600086; omega, by show us + 0 + 18 ≤ 7301442; omega⟩ (Nat.le_of_ble_eq_true rfl) rfl dL_law_2249 ?_
    show zV true E kL_law 0 o 2252 (.ref (0) :: .ref (1) :: .ref (J 0) :: .ref (J 1) :: .ref (J 2) :: .ref (J 3) :: .ref (J 4) :: .ref (J 5) :: .ref (J 6) :: .ref (J 7) :: .ref (J 8) :: .int (nI at9) :: .ref (J 9) :: .ref (J 10) :: .int (nI nr) :: .int (nI nc) :: .int (nI ni) :: .int (nI tn) :: .int (z) :: .int (q) :: .int (nI kd) :: .int (nI c) :: .int (nI (80 + k2141)) :: .int (nI 0) :: .null :: .null :: .null :: .null :: .null :: .null :: .null :: .null :: .null :: []) [.int (-1)] (zm μ (J, 11, ν)) (u + 0 + 3) (us + 0 + 18)
    refine z_iload rfl dL_law_2252 ?_
    refine z_if_eq 2262 (by decide) dL_law_2254 (fun _ => ?_) (fun h => absurd h (by decide))
    refine z_iconst (-1) (by decide) dL_law_2262 ?_
    refine z_icmp_eq 2268 (by decide) dL_law_2263 (fun _ => ?_) (fun h => absurd h (by decide))
    refine z_iconst (nI 0) (by decide) dL_law_2268 ?_
    refine z_istore (by decide) rfl dL_law_2269 ?_
    refine z_iload rfl dL_law_2271 ?_
    refine z_bipush (nI 8) (by decide) dL_law_2273 ?_
    refine z_icmp_ge 2341 (by decide) dL_law_2275 (fun h => absurd h (by decide)) (fun _ => ?_)
    refine z_iload rfl dL_law_2278 ?_
    refine z_if_eq 2341 (by decide) dL_law_2280 (fun _ => ?_) (fun h => absurd h (by decide))
    refine z_goto 2482 (by decide) dL_law_2341 ?_
    refine z_fgt (.ref (0) :: .ref (1) :: .ref (J 0) :: .ref (J 1) :: .ref (J 2) :: .ref (J 3) :: .ref (J 4) :: .ref (J 5) :: .ref (J 6) :: .ref (J 7) :: .ref (J 8) :: .int (nI at9) :: .ref (J 9) :: .ref (J 10) :: .int (nI nr) :: .int (nI nc) :: .int (nI ni) :: .int (nI tn) :: .null :: .null :: .null :: .null :: .null :: .null :: .null :: .null :: .null :: .null :: .null :: .null :: .null :: .null :: .null :: []) ⟨Or.inl rfl, ⟨Or.inl rfl, ⟨Or.inl rfl, ⟨Or.inl rfl, ⟨Or.inl rfl, ⟨Or.inl rfl, ⟨Or.inl rfl, ⟨Or.inl rfl, ⟨Or.inl rfl, ⟨Or.inl rfl, ⟨Or.inl rfl, ⟨Or.inl rfl, ⟨Or.inl rfl, ⟨Or.inl rfl, ⟨Or.inl rfl, ⟨Or.inl rfl, ⟨Or.inl rfl, ⟨Or.inl rfl, ⟨Or.inr rfl, ⟨Or.inr rfl, ⟨Or.inr rfl, ⟨Or.inr rfl, ⟨Or.inr rfl, ⟨Or.inr rfl, ⟨Or.inr rfl, ⟨Or.inl rfl, ⟨Or.inl rfl, ⟨Or.inl rfl, ⟨Or.inl rfl, ⟨Or.inl rfl, ⟨Or.inl rfl, ⟨Or.inl rfl, ⟨Or.inl rfl, trivial⟩⟩⟩⟩⟩⟩⟩⟩⟩⟩⟩⟩⟩⟩⟩⟩⟩⟩⟩⟩⟩⟩⟩⟩⟩⟩⟩⟩⟩⟩⟩⟩⟩ ?_
    exact kk _ _ _ _ _ _ (hI) (by show u + 0 + 3 ≤ _; omega) (by show us + 0 + 18 ≤ 64 * (u + 0 + 3); omega)
