/-! turns of the law: exchange, hand and reads, island, paint, lose (printed by wip/p25/gen_5.py) -/
set_option maxRecDepth 100000 in
set_option maxHeartbeats 4000000 in
theorem sc_exchange {E : Nat × (Nat → Int32)} (hE : E.1 ≤ 260) {o : zO} {J : Nat → Nat} {μ ν : zMu} {nc nr ni : Nat} {rf rt : Nat → Nat} (hI : iv μ ν nc nr ni rf rt) {at9 tn kd c : Nat} (hc : c < nc) {z q : Int32} {u us : Nat} (hu : u ≤ 70000) (hus : us ≤ 64 * u) (kk : ∀ (μ2 ν2 : zMu) (nc2 ni2 u2 us2 : Nat), iv μ2 ν2 nc2 nr ni2 rf rt → u2 ≤ u + 200 → us2 ≤ 64 * u2 → zV true E kL_law 0 o 2482 (.ref (0) :: .ref (1) :: .ref (J 0) :: .ref (J 1) :: .ref (J 2) :: .ref (J 3) :: .ref (J 4) :: .ref (J 5) :: .ref (J 6) :: .ref (J 7) :: .ref (J 8) :: .int (nI at9) :: .ref (J 9) :: .ref (J 10) :: .int (nI nr) :: .int (nI nc2) :: .int (nI ni2) :: .int (nI tn) :: .null :: .null :: .null :: .null :: .null :: .null :: .null :: .null :: .null :: .null :: .null :: .null :: .null :: .null :: .null :: []) [] (zm μ2 (J, 11, ν2)) u2 us2) : zV true E kL_law 0 o 1939 (.ref (0) :: .ref (1) :: .ref (J 0) :: .ref (J 1) :: .ref (J 2) :: .ref (J 3) :: .ref (J 4) :: .ref (J 5) :: .ref (J 6) :: .ref (J 7) :: .ref (J 8) :: .int (nI at9) :: .ref (J 9) :: .ref (J 10) :: .int (nI nr) :: .int (nI nc) :: .int (nI ni) :: .int (nI tn) :: .int (z) :: .int (q) :: .int (nI kd) :: .int (nI c) :: .null :: .null :: .null :: .null :: .null :: .null :: .null :: .null :: .null :: .null :: .null :: []) [] (zm μ (J, 11, ν)) u us := by
  obtain ⟨⟨⟨hnc, hn5⟩, ⟨hnr, h6, h13⟩, ⟨hni, hn4⟩⟩, hT, hL, hY, hB, hK, hA⟩ := id hI
  have hn12 : nc ≤ 12 := by omega
  refine z_iload rfl dL_law_1939 ?_
  refine z_bipush (nI 10) (by decide) dL_law_1941 ?_
  obtain ⟨k1943, hk1943, hl1943⟩ := ct_L_low (E := E) (μ := μ) (J := J) (m := 11) (ν := ν) (q) (n := 10) (by omega) (by omega)
  refine z_callS (as := [.int (q), .int (nI 10)]) hl1943 ko_L_low kl_L_57 rfl rfl ⟨by decide, by decide, by show u + 0 ≤ 600086; omega, by show us + 0 ≤ 7301442; omega⟩ (Nat.le_of_ble_eq_true rfl) rfl dL_law_1943 ?_
  show zV true E kL_law 0 o 1946 (.ref (0) :: .ref (1) :: .ref (J 0) :: .ref (J 1) :: .ref (J 2) :: .ref (J 3) :: .ref (J 4) :: .ref (J 5) :: .ref (J 6) :: .ref (J 7) :: .ref (J 8) :: .int (nI at9) :: .ref (J 9) :: .ref (J 10) :: .int (nI nr) :: .int (nI nc) :: .int (nI ni) :: .int (nI tn) :: .int (z) :: .int (q) :: .int (nI kd) :: .int (nI c) :: .null :: .null :: .null :: .null :: .null :: .null :: .null :: .null :: .null :: .null :: .null :: []) [.int (nI k1943)] (zm μ (J, 11, ν)) (u + 0) (us + 0)
  refine z_istore (by decide) rfl dL_law_1946 ?_
  refine z_iload rfl dL_law_1948 ?_
  refine z_iconst (nI 4) (by decide) dL_law_1950 ?_
  refine z_ishr dL_law_1951 ?_
  refine z_bipush (nI 10) (by decide) dL_law_1952 ?_
  obtain ⟨k1954, hk1954, hl1954⟩ := ct_L_low (E := E) (μ := μ) (J := J) (m := 11) (ν := ν) (q >>> ((nI 4) &&& 31)) (n := 10) (by omega) (by omega)
  refine z_callS (as := [.int (q >>> ((nI 4) &&& 31)), .int (nI 10)]) hl1954 ko_L_low kl_L_57 rfl rfl ⟨by decide, by decide, by show u + 0 + 0 ≤ 600086; omega, by show us + 0 + 0 ≤ 7301442; omega⟩ (Nat.le_of_ble_eq_true rfl) rfl dL_law_1954 ?_
  show zV true E kL_law 0 o 1957 (.ref (0) :: .ref (1) :: .ref (J 0) :: .ref (J 1) :: .ref (J 2) :: .ref (J 3) :: .ref (J 4) :: .ref (J 5) :: .ref (J 6) :: .ref (J 7) :: .ref (J 8) :: .int (nI at9) :: .ref (J 9) :: .ref (J 10) :: .int (nI nr) :: .int (nI nc) :: .int (nI ni) :: .int (nI tn) :: .int (z) :: .int (q) :: .int (nI kd) :: .int (nI c) :: .int (nI k1943) :: .null :: .null :: .null :: .null :: .null :: .null :: .null :: .null :: .null :: .null :: []) [.int (nI k1954)] (zm μ (J, 11, ν)) (u + 0 + 0) (us + 0 + 0)
  refine z_istore (by decide) rfl dL_law_1957 ?_
  refine z_aload_n rfl rfl dL_law_1959 ?_
  refine z_iload rfl dL_law_1960 ?_
  refine z_iload rfl dL_law_1962 ?_
  refine z_iload rfl dL_law_1964 ?_
  refine z_callV (as := [.int (nI c), .int (nI k1943), .int (nI k1954)]) (ct_X7_exchange (E := E) (μ := μ) (g := (J, 11, ν)) hnc hn12 (c := c) (by omega) (p := k1943) (q := k1954) (by omega) (by omega)) ko_X7_exchange kl_L_87 rfl (zl_a rfl rfl) rfl rfl ⟨by decide, by decide, by show u + 0 + 0 + 3 ≤ 600086; omega, by show us + 0 + 0 + 18 ≤ 7301442; omega⟩ (Nat.le_of_ble_eq_true rfl) rfl dL_law_1966 ?_
  show zV true E kL_law 0 o 1969 (.ref (0) :: .ref (1) :: .ref (J 0) :: .ref (J 1) :: .ref (J 2) :: .ref (J 3) :: .ref (J 4) :: .ref (J 5) :: .ref (J 6) :: .ref (J 7) :: .ref (J 8) :: .int (nI at9) :: .ref (J 9) :: .ref (J 10) :: .int (nI nr) :: .int (nI nc) :: .int (nI ni) :: .int (nI tn) :: .int (z) :: .int (q) :: .int (nI kd) :: .int (nI c) :: .int (nI k1943) :: .int (nI k1954) :: .null :: .null :: .null :: .null :: .null :: .null :: .null :: .null :: .null :: []) [] (zm (zu (zu μ (36 + 7 * c) k1943 (μ (36 + 7 * c) k1954)) (36 + 7 * c) k1954 (μ (36 + 7 * c) k1943)) (J, 11, ν)) (u + 0 + 0 + 3) (us + 0 + 0 + 18)
  refine z_aload rfl dL_law_1969 ?_
  refine z_bipush (nI 10) (by decide) dL_law_1971 ?_
  refine z_iload rfl dL_law_1973 ?_
  refine m_mulN dL_law_1975 ?_
  refine z_iload rfl dL_law_1976 ?_
  refine m_addN dL_law_1978 ?_
  refine m_xald 2 ((10 * c) + k1943) 64 rfl (by decide) rfl (by omega) (by decide) dL_law_1979 ?_
  refine z_istore (by decide) rfl dL_law_1980 ?_
  refine z_aload rfl dL_law_1982 ?_
  refine z_bipush (nI 10) (by decide) dL_law_1984 ?_
  refine z_iload rfl dL_law_1986 ?_
  refine m_mulN dL_law_1988 ?_
  refine z_iload rfl dL_law_1989 ?_
  refine m_addN dL_law_1991 ?_
  refine z_aload rfl dL_law_1992 ?_
  refine z_bipush (nI 10) (by decide) dL_law_1994 ?_
  refine z_iload rfl dL_law_1996 ?_
  refine m_mulN dL_law_1998 ?_
  refine z_iload rfl dL_law_1999 ?_
  refine m_addN dL_law_2001 ?_
  refine m_xald 2 ((10 * c) + k1954) 64 rfl (by decide) rfl (by omega) (by decide) dL_law_2002 ?_
  refine m_xast 2 ((10 * c) + k1943) 64 rfl (by decide) rfl (by omega) (by decide) dL_law_2003 ?_
  refine z_aload rfl dL_law_2004 ?_
  refine z_bipush (nI 10) (by decide) dL_law_2006 ?_
  refine z_iload rfl dL_law_2008 ?_
  refine m_mulN dL_law_2010 ?_
  refine z_iload rfl dL_law_2011 ?_
  refine m_addN dL_law_2013 ?_
  refine z_iload rfl dL_law_2014 ?_
  refine m_xast 2 ((10 * c) + k1954) 64 rfl (by decide) rfl (by omega) (by decide) dL_law_2016 ?_
  refine z_goto 2482 (by decide) dL_law_2017 ?_
  refine z_fgt (.ref (0) :: .ref (1) :: .ref (J 0) :: .ref (J 1) :: .ref (J 2) :: .ref (J 3) :: .ref (J 4) :: .ref (J 5) :: .ref (J 6) :: .ref (J 7) :: .ref (J 8) :: .int (nI at9) :: .ref (J 9) :: .ref (J 10) :: .int (nI nr) :: .int (nI nc) :: .int (nI ni) :: .int (nI tn) :: .null :: .null :: .null :: .null :: .null :: .null :: .null :: .null :: .null :: .null :: .null :: .null :: .null :: .null :: .null :: []) ⟨Or.inl rfl, ⟨Or.inl rfl, ⟨Or.inl rfl, ⟨Or.inl rfl, ⟨Or.inl rfl, ⟨Or.inl rfl, ⟨Or.inl rfl, ⟨Or.inl rfl, ⟨Or.inl rfl, ⟨Or.inl rfl, ⟨Or.inl rfl, ⟨Or.inl rfl, ⟨Or.inl rfl, ⟨Or.inl rfl, ⟨Or.inl rfl, ⟨Or.inl rfl, ⟨Or.inl rfl, ⟨Or.inl rfl, ⟨Or.inr rfl, ⟨Or.inr rfl, ⟨Or.inr rfl, ⟨Or.inr rfl, ⟨Or.inr rfl, ⟨Or.inr rfl, ⟨Or.inr rfl, ⟨Or.inl rfl, ⟨Or.inl rfl, ⟨Or.inl rfl, ⟨Or.inl rfl, ⟨Or.inl rfl, ⟨Or.inl rfl, ⟨Or.inl rfl, ⟨Or.inl rfl, trivial⟩⟩⟩⟩⟩⟩⟩⟩⟩⟩⟩⟩⟩⟩⟩⟩⟩⟩⟩⟩⟩⟩⟩⟩⟩⟩⟩⟩⟩⟩⟩⟩⟩ ?_
  exact kk _ _ _ _ _ _ (v_exchange hI hc hk1943 hk1954) (by show u + 0 + 0 + 3 ≤ _; omega) (by show us + 0 + 0 + 18 ≤ 64 * (u + 0 + 0 + 3); omega)
set_option maxRecDepth 100000 in
set_option maxHeartbeats 4000000 in
theorem sc_hand {E : Nat × (Nat → Int32)} (hE : E.1 ≤ 260) {o : zO} {J : Nat → Nat} {μ ν : zMu} {nc nr ni : Nat} {rf rt : Nat → Nat} (hI : iv μ ν nc nr ni rf rt) {at9 tn kd c : Nat} (hc : c < nc) {z q : Int32} {u us : Nat} (hu : u ≤ 70000) (hus : us ≤ 64 * u) (kk : ∀ (μ2 ν2 : zMu) (nc2 ni2 u2 us2 : Nat), iv μ2 ν2 nc2 nr ni2 rf rt → u2 ≤ u + 200 → us2 ≤ 64 * u2 → zV true E kL_law 0 o 2482 (.ref (0) :: .ref (1) :: .ref (J 0) :: .ref (J 1) :: .ref (J 2) :: .ref (J 3) :: .ref (J 4) :: .ref (J 5) :: .ref (J 6) :: .ref (J 7) :: .ref (J 8) :: .int (nI at9) :: .ref (J 9) :: .ref (J 10) :: .int (nI nr) :: .int (nI nc2) :: .int (nI ni2) :: .int (nI tn) :: .null :: .null :: .null :: .null :: .null :: .null :: .null :: .null :: .null :: .null :: .null :: .null :: .null :: .null :: .null :: []) [] (zm μ2 (J, 11, ν2)) u2 us2) : zV true E kL_law 0 o 2027 (.ref (0) :: .ref (1) :: .ref (J 0) :: .ref (J 1) :: .ref (J 2) :: .ref (J 3) :: .ref (J 4) :: .ref (J 5) :: .ref (J 6) :: .ref (J 7) :: .ref (J 8) :: .int (nI at9) :: .ref (J 9) :: .ref (J 10) :: .int (nI nr) :: .int (nI nc) :: .int (nI ni) :: .int (nI tn) :: .int (z) :: .int (q) :: .int (nI kd) :: .int (nI c) :: .null :: .null :: .null :: .null :: .null :: .null :: .null :: .null :: .null :: .null :: .null :: []) [] (zm μ (J, 11, ν)) u us := by
  obtain ⟨⟨⟨hnc, hn5⟩, ⟨hnr, h6, h13⟩, ⟨hni, hn4⟩⟩, hT, hL, hY, hB, hK, hA⟩ := id hI
  have hn12 : nc ≤ 12 := by omega
  refine z_iload rfl dL_law_2027 ?_
  refine z_iconst (nI 4) (by decide) dL_law_2029 ?_
  obtain ⟨k2030, hk2030, hl2030⟩ := ct_L_low (E := E) (μ := μ) (J := J) (m := 11) (ν := ν) (q) (n := 4) (by omega) (by omega)
  refine z_callS (as := [.int (q), .int (nI 4)]) hl2030 ko_L_low kl_L_57 rfl rfl ⟨by decide, by decide, by show u + 0 ≤ 600086; omega, by show us + 0 ≤ 7301442; omega⟩ (Nat.le_of_ble_eq_true rfl) rfl dL_law_2030 ?_
  show zV true E kL_law 0 o 2033 (.ref (0) :: .ref (1) :: .ref (J 0) :: .ref (J 1) :: .ref (J 2) :: .ref (J 3) :: .ref (J 4) :: .ref (J 5) :: .ref (J 6) :: .ref (J 7) :: .ref (J 8) :: .int (nI at9) :: .ref (J 9) :: .ref (J 10) :: .int (nI nr) :: .int (nI nc) :: .int (nI ni) :: .int (nI tn) :: .int (z) :: .int (q) :: .int (nI kd) :: .int (nI c) :: .null :: .null :: .null :: .null :: .null :: .null :: .null :: .null :: .null :: .null :: .null :: []) [.int (nI k2030)] (zm μ (J, 11, ν)) (u + 0) (us + 0)
  refine z_istore (by decide) rfl dL_law_2033 ?_
  refine z_iload rfl dL_law_2035 ?_
  refine z_iconst (nI 2) (by decide) dL_law_2037 ?_
  refine z_ishr dL_law_2038 ?_
  refine z_bipush (nI 19) (by decide) dL_law_2039 ?_
  obtain ⟨k2041, hk2041, hl2041⟩ := ct_L_low (E := E) (μ := μ) (J := J) (m := 11) (ν := ν) (q >>> ((nI 2) &&& 31)) (n := 19) (by omega) (by omega)
  refine z_callS (as := [.int (q >>> ((nI 2) &&& 31)), .int (nI 19)]) hl2041 ko_L_low kl_L_57 rfl rfl ⟨by decide, by decide, by show u + 0 + 0 ≤ 600086; omega, by show us + 0 + 0 ≤ 7301442; omega⟩ (Nat.le_of_ble_eq_true rfl) rfl dL_law_2041 ?_
  show zV true E kL_law 0 o 2044 (.ref (0) :: .ref (1) :: .ref (J 0) :: .ref (J 1) :: .ref (J 2) :: .ref (J 3) :: .ref (J 4) :: .ref (J 5) :: .ref (J 6) :: .ref (J 7) :: .ref (J 8) :: .int (nI at9) :: .ref (J 9) :: .ref (J 10) :: .int (nI nr) :: .int (nI nc) :: .int (nI ni) :: .int (nI tn) :: .int (z) :: .int (q) :: .int (nI kd) :: .int (nI c) :: .int (nI k2030) :: .null :: .null :: .null :: .null :: .null :: .null :: .null :: .null :: .null :: .null :: []) [.int (nI k2041)] (zm μ (J, 11, ν)) (u + 0 + 0) (us + 0 + 0)
  refine z_bipush (nI 9) (by decide) dL_law_2044 ?_
  refine z_isub dL_law_2046 ?_
  obtain ⟨hh, ehh⟩ : ∃ z, z = (nI k2041) - (nI 9) := ⟨_, rfl⟩
  refine m_eqv (w := hh) ehh.symm ?_
  have bh : rb 9 hh := by rw [ehh]; exact rb_low hk2041 (by omega) (by omega) (by omega)
  refine z_istore (by decide) rfl dL_law_2047 ?_
  refine z_aload_n rfl rfl dL_law_2049 ?_
  refine z_iload rfl dL_law_2050 ?_
  refine z_iload rfl dL_law_2052 ?_
  refine z_callV (as := [.int (nI k2030), .int (hh)]) (by have h := ct_X7_hand (E := E) (μ := μ) (g := (J, 11, ν)) (q := k2030) (by omega) (h := hh); rw [if_neg (fun q => q (zin_rb (by decide) bh)), (hY k2030 (by omega)).1.1] at h; exact h) ko_X7_hand kl_L_91 rfl (zl_a rfl rfl) rfl rfl ⟨by decide, by decide, by show u + 0 + 0 + 2 ≤ 600086; omega, by show us + 0 + 0 + 12 ≤ 7301442; omega⟩ (Nat.le_of_ble_eq_true rfl) rfl dL_law_2054 ?_
  show zV true E kL_law 0 o 2057 (.ref (0) :: .ref (1) :: .ref (J 0) :: .ref (J 1) :: .ref (J 2) :: .ref (J 3) :: .ref (J 4) :: .ref (J 5) :: .ref (J 6) :: .ref (J 7) :: .ref (J 8) :: .int (nI at9) :: .ref (J 9) :: .ref (J 10) :: .int (nI nr) :: .int (nI nc) :: .int (nI ni) :: .int (nI tn) :: .int (z) :: .int (q) :: .int (nI kd) :: .int (nI c) :: .int (nI k2030) :: .int (hh) :: .null :: .null :: .null :: .null :: .null :: .null :: .null :: .null :: .null :: []) [.int (ν 7 k2030)] (zm (zu μ (25 + 2 * k2030) 0 hh) (J, 11, ν)) (u + 0 + 0 + 2) (us + 0 + 0 + 12)
  refine z_aload rfl dL_law_2057 ?_
  refine z_iload rfl dL_law_2059 ?_
  refine m_xald 7 (k2030) 4 rfl (by decide) rfl (by omega) (by decide) dL_law_2061 ?_
  refine z_icmp_eq 2067 (by decide) dL_law_2062 (fun _ => ?_) (fun h => absurd rfl h)
  refine z_aload rfl dL_law_2067 ?_
  refine z_iload rfl dL_law_2069 ?_
  refine z_iload rfl dL_law_2071 ?_
  refine m_xast 7 (k2030) 4 rfl (by decide) rfl (by omega) (by decide) dL_law_2073 ?_
  refine z_iconst (nI 1) (by decide) dL_law_2074 ?_
  refine z_iload rfl dL_law_2075 ?_
  refine z_bipush (nI 8) (by decide) dL_law_2077 ?_
  refine z_ishr dL_law_2079 ?_
  refine z_bipush (nI 10) (by decide) dL_law_2080 ?_
  obtain ⟨k2082, hk2082, hl2082⟩ := ct_L_low (E := E) (μ := zu μ (25 + 2 * k2030) 0 hh) (J := J) (m := 11) (ν := zu ν 7 k2030 hh) (q >>> ((nI 8) &&& 31)) (n := 10) (by omega) (by omega)
  refine z_callS (as := [.int (q >>> ((nI 8) &&& 31)), .int (nI 10)]) hl2082 ko_L_low kl_L_57 rfl rfl ⟨by decide, by decide, by show u + 0 + 0 + 2 + 0 ≤ 600086; omega, by show us + 0 + 0 + 12 + 0 ≤ 7301442; omega⟩ (Nat.le_of_ble_eq_true rfl) rfl dL_law_2082 ?_
  show zV true E kL_law 0 o 2085 (.ref (0) :: .ref (1) :: .ref (J 0) :: .ref (J 1) :: .ref (J 2) :: .ref (J 3) :: .ref (J 4) :: .ref (J 5) :: .ref (J 6) :: .ref (J 7) :: .ref (J 8) :: .int (nI at9) :: .ref (J 9) :: .ref (J 10) :: .int (nI nr) :: .int (nI nc) :: .int (nI ni) :: .int (nI tn) :: .int (z) :: .int (q) :: .int (nI kd) :: .int (nI c) :: .int (nI k2030) :: .int (hh) :: .null :: .null :: .null :: .null :: .null :: .null :: .null :: .null :: .null :: []) [.int (nI k2082), .int (nI 1)] (zm (zu μ (25 + 2 * k2030) 0 hh) (J, 11, (zu ν 7 k2030 hh))) (u + 0 + 0 + 2 + 0) (us + 0 + 0 + 12 + 0)
  refine m_addN dL_law_2085 ?_
  refine z_istore (by decide) rfl dL_law_2086 ?_
  refine z_iconst (nI 1) (by decide) dL_law_2088 ?_
  refine z_iload rfl dL_law_2089 ?_
  refine z_bipush (nI 12) (by decide) dL_law_2091 ?_
  refine z_ishr dL_law_2093 ?_
  refine z_bipush (nI 12) (by decide) dL_law_2094 ?_
  obtain ⟨k2096, hk2096, hl2096⟩ := ct_L_low (E := E) (μ := zu μ (25 + 2 * k2030) 0 hh) (J := J) (m := 11) (ν := zu ν 7 k2030 hh) (q >>> ((nI 12) &&& 31)) (n := 12) (by omega) (by omega)
  refine z_callS (as := [.int (q >>> ((nI 12) &&& 31)), .int (nI 12)]) hl2096 ko_L_low kl_L_57 rfl rfl ⟨by decide, by decide, by show u + 0 + 0 + 2 + 0 + 0 ≤ 600086; omega, by show us + 0 + 0 + 12 + 0 + 0 ≤ 7301442; omega⟩ (Nat.le_of_ble_eq_true rfl) rfl dL_law_2096 ?_
  show zV true E kL_law 0 o 2099 (.ref (0) :: .ref (1) :: .ref (J 0) :: .ref (J 1) :: .ref (J 2) :: .ref (J 3) :: .ref (J 4) :: .ref (J 5) :: .ref (J 6) :: .ref (J 7) :: .ref (J 8) :: .int (nI at9) :: .ref (J 9) :: .ref (J 10) :: .int (nI nr) :: .int (nI nc) :: .int (nI ni) :: .int (nI tn) :: .int (z) :: .int (q) :: .int (nI kd) :: .int (nI c) :: .int (nI k2030) :: .int (hh) :: .int (nI (1 + k2082)) :: .null :: .null :: .null :: .null :: .null :: .null :: .null :: .null :: []) [.int (nI k2096), .int (nI 1)] (zm (zu μ (25 + 2 * k2030) 0 hh) (J, 11, (zu ν 7 k2030 hh))) (u + 0 + 0 + 2 + 0 + 0) (us + 0 + 0 + 12 + 0 + 0)
  refine m_addN dL_law_2099 ?_
  refine z_istore (by decide) rfl dL_law_2100 ?_
  refine z_aload_n rfl rfl dL_law_2102 ?_
  refine z_iload rfl dL_law_2103 ?_
  refine z_iload rfl dL_law_2105 ?_
  refine z_iload rfl dL_law_2107 ?_
  refine z_callV (as := [.int (nI k2030), .int (nI (1 + k2082)), .int (nI (1 + k2096))]) (by have h := ct_X7_reads (E := E) (μ := zu μ (25 + 2 * k2030) 0 hh) (g := (J, 11, zu ν 7 k2030 hh)) (q := k2030) (by omega) (a := nI (1 + k2082)) (w := nI (1 + k2096)); rw [if_neg (fun q => q ⟨znm_nI (by omega) (by omega), znm_nI (by omega) (by omega)⟩), nI_clamp (show 1 + k2082 < 2147483648 by omega)] at h; exact h) ko_X7_reads kl_L_94 rfl (zl_a rfl rfl) rfl rfl ⟨by decide, by decide, by show u + 0 + 0 + 2 + 0 + 0 + 2 ≤ 600086; omega, by show us + 0 + 0 + 12 + 0 + 0 + 12 ≤ 7301442; omega⟩ (Nat.le_of_ble_eq_true rfl) rfl dL_law_2109 ?_
  show zV true E kL_law 0 o 2112 (.ref (0) :: .ref (1) :: .ref (J 0) :: .ref (J 1) :: .ref (J 2) :: .ref (J 3) :: .ref (J 4) :: .ref (J 5) :: .ref (J 6) :: .ref (J 7) :: .ref (J 8) :: .int (nI at9) :: .ref (J 9) :: .ref (J 10) :: .int (nI nr) :: .int (nI nc) :: .int (nI ni) :: .int (nI tn) :: .int (z) :: .int (q) :: .int (nI kd) :: .int (nI c) :: .int (nI k2030) :: .int (hh) :: .int (nI (1 + k2082)) :: .int (nI (1 + k2096)) :: .null :: .null :: .null :: .null :: .null :: .null :: .null :: []) [] (zm (zu (zu μ (25 + 2 * k2030) 0 hh) (26 + 2 * k2030) (1 + k2082) (nI (1 + k2096))) (J, 11, (zu ν 7 k2030 hh))) (u + 0 + 0 + 2 + 0 + 0 + 2) (us + 0 + 0 + 12 + 0 + 0 + 12)
  refine z_aload rfl dL_law_2112 ?_
  refine z_bipush (nI 16) (by decide) dL_law_2114 ?_
  refine z_iload rfl dL_law_2116 ?_
  refine m_mulN dL_law_2118 ?_
  refine z_iload rfl dL_law_2119 ?_
  refine m_addN dL_law_2121 ?_
  refine z_iload rfl dL_law_2122 ?_
  refine m_xast 8 ((16 * k2030) + (1 + k2082)) 64 rfl (by decide) rfl (by omega) (by decide) dL_law_2124 ?_
  refine z_goto 2482 (by decide) dL_law_2125 ?_
  refine z_fgt (.ref (0) :: .ref (1) :: .ref (J 0) :: .ref (J 1) :: .ref (J 2) :: .ref (J 3) :: .ref (J 4) :: .ref (J 5) :: .ref (J 6) :: .ref (J 7) :: .ref (J 8) :: .int (nI at9) :: .ref (J 9) :: .ref (J 10) :: .int (nI nr) :: .int (nI nc) :: .int (nI ni) :: .int (nI tn) :: .null :: .null :: .null :: .null :: .null :: .null :: .null :: .null :: .null :: .null :: .null :: .null :: .null :: .null :: .null :: []) ⟨Or.inl rfl, ⟨Or.inl rfl, ⟨Or.inl rfl, ⟨Or.inl rfl, ⟨Or.inl rfl, ⟨Or.inl rfl, ⟨Or.inl rfl, ⟨Or.inl rfl, ⟨Or.inl rfl, ⟨Or.inl rfl, ⟨Or.inl rfl, ⟨Or.inl rfl, ⟨Or.inl rfl, ⟨Or.inl rfl, ⟨Or.inl rfl, ⟨Or.inl rfl, ⟨Or.inl rfl, ⟨Or.inl rfl, ⟨Or.inr rfl, ⟨Or.inr rfl, ⟨Or.inr rfl, ⟨Or.inr rfl, ⟨Or.inr rfl, ⟨Or.inr rfl, ⟨Or.inr rfl, ⟨Or.inr rfl, ⟨Or.inl rfl, ⟨Or.inl rfl, ⟨Or.inl rfl, ⟨Or.inl rfl, ⟨Or.inl rfl, ⟨Or.inl rfl, ⟨Or.inl rfl, trivial⟩⟩⟩⟩⟩⟩⟩⟩⟩⟩⟩⟩⟩⟩⟩⟩⟩⟩⟩⟩⟩⟩⟩⟩⟩⟩⟩⟩⟩⟩⟩⟩⟩ ?_
  exact kk _ _ _ _ _ _ (v_hand hI hk2030 bh hk2082 hk2096) (by show u + 0 + 0 + 2 + 0 + 0 + 2 ≤ _; omega) (by show us + 0 + 0 + 12 + 0 + 0 + 12 ≤ 64 * (u + 0 + 0 + 2 + 0 + 0 + 2); omega)
set_option maxRecDepth 100000 in
set_option maxHeartbeats 4000000 in
theorem sc_island {E : Nat × (Nat → Int32)} (hE : E.1 ≤ 260) {o : zO} {J : Nat → Nat} {μ ν : zMu} {nc nr ni : Nat} {rf rt : Nat → Nat} (hI : iv μ ν nc nr ni rf rt) {at9 tn kd c : Nat} (hc : c < nc) {z q : Int32} {u us : Nat} (hu : u ≤ 70000) (hus : us ≤ 64 * u) (kk : ∀ (μ2 ν2 : zMu) (nc2 ni2 u2 us2 : Nat), iv μ2 ν2 nc2 nr ni2 rf rt → u2 ≤ u + 200 → us2 ≤ 64 * u2 → zV true E kL_law 0 o 2482 (.ref (0) :: .ref (1) :: .ref (J 0) :: .ref (J 1) :: .ref (J 2) :: .ref (J 3) :: .ref (J 4) :: .ref (J 5) :: .ref (J 6) :: .ref (J 7) :: .ref (J 8) :: .int (nI at9) :: .ref (J 9) :: .ref (J 10) :: .int (nI nr) :: .int (nI nc2) :: .int (nI ni2) :: .int (nI tn) :: .null :: .null :: .null :: .null :: .null :: .null :: .null :: .null :: .null :: .null :: .null :: .null :: .null :: .null :: .null :: []) [] (zm μ2 (J, 11, ν2)) u2 us2) (h4 : ni < 4) : zV true E kL_law 0 o 1902 (.ref (0) :: .ref (1) :: .ref (J 0) :: .ref (J 1) :: .ref (J 2) :: .ref (J 3) :: .ref (J 4) :: .ref (J 5) :: .ref (J 6) :: .ref (J 7) :: .ref (J 8) :: .int (nI at9) :: .ref (J 9) :: .ref (J 10) :: .int (nI nr) :: .int (nI nc) :: .int (nI ni) :: .int (nI tn) :: .int (z) :: .int (q) :: .int (nI kd) :: .int (nI c) :: .null :: .null :: .null :: .null :: .null :: .null :: .null :: .null :: .null :: .null :: .null :: []) [] (zm μ (J, 11, ν)) u us := by
  obtain ⟨⟨⟨hnc, hn5⟩, ⟨hnr, h6, h13⟩, ⟨hni, hn4⟩⟩, hT, hL, hY, hB, hK, hA⟩ := id hI
  have hn12 : nc ≤ 12 := by omega
  refine z_aload_n rfl rfl dL_law_1902 ?_
  refine z_iload rfl dL_law_1903 ?_
  refine z_iconst (nI 5) (by decide) dL_law_1905 ?_
  refine z_bipush (-5) (by decide) dL_law_1906 ?_
  refine z_callV (as := [.int (nI c), .int (nI 5), .int (-5)]) (by have h := ct_X7_island (E := E) (μ := μ) (g := (J, 11, ν)) hnc hn12 (ni := ni) hni (by omega) (c := c) (by omega) (x := nI 5) (y := -5); rw [if_neg (fun q => q ⟨by decide, by decide⟩), if_neg (fun q => q (by omega))] at h; exact h) ko_X7_island kl_L_84 rfl (zl_a rfl rfl) rfl rfl ⟨by decide, by decide, by show u + 2 ≤ 600086; omega, by show us + 12 ≤ 7301442; omega⟩ (Nat.le_of_ble_eq_true rfl) rfl dL_law_1908 ?_
  show zV true E kL_law 0 o 1911 (.ref (0) :: .ref (1) :: .ref (J 0) :: .ref (J 1) :: .ref (J 2) :: .ref (J 3) :: .ref (J 4) :: .ref (J 5) :: .ref (J 6) :: .ref (J 7) :: .ref (J 8) :: .int (nI at9) :: .ref (J 9) :: .ref (J 10) :: .int (nI nr) :: .int (nI nc) :: .int (nI ni) :: .int (nI tn) :: .int (z) :: .int (q) :: .int (nI kd) :: .int (nI c) :: .null :: .null :: .null :: .null :: .null :: .null :: .null :: .null :: .null :: .null :: .null :: []) [.int (nI ni)] (zm (zu (zu (zu (zu (zu μ 22 ni (nI 5)) 23 ni (-5)) 24 ni (nI c)) 21 3 (nI (ni + 1))) (39 + 7 * c) ni (nI 1)) (J, 11, ν)) (u + 2) (us + 12)
  refine z_iload rfl dL_law_1911 ?_
  refine z_icmp_eq 1918 (by decide) dL_law_1913 (fun _ => ?_) (fun h => absurd rfl h)
  refine z_aload rfl dL_law_1918 ?_
  refine z_iload rfl dL_law_1920 ?_
  refine z_iconst (nI 1) (by decide) dL_law_1922 ?_
  refine z_iload rfl dL_law_1923 ?_
  refine z_ishl dL_law_1925 ?_
  refine m_xast 5 (ni) 4 rfl (by decide) rfl (by omega) (by decide) dL_law_1926 ?_
  refine z_iinc (nI (ni + 1)) rfl (zincN _ 1) (by decide) rfl dL_law_1927 ?_
  refine z_goto 2482 (by decide) dL_law_1930 ?_
  refine z_fgt (.ref (0) :: .ref (1) :: .ref (J 0) :: .ref (J 1) :: .ref (J 2) :: .ref (J 3) :: .ref (J 4) :: .ref (J 5) :: .ref (J 6) :: .ref (J 7) :: .ref (J 8) :: .int (nI at9) :: .ref (J 9) :: .ref (J 10) :: .int (nI nr) :: .int (nI nc) :: .int (nI (ni + 1)) :: .int (nI tn) :: .null :: .null :: .null :: .null :: .null :: .null :: .null :: .null :: .null :: .null :: .null :: .null :: .null :: .null :: .null :: []) ⟨Or.inl rfl, ⟨Or.inl rfl, ⟨Or.inl rfl, ⟨Or.inl rfl, ⟨Or.inl rfl, ⟨Or.inl rfl, ⟨Or.inl rfl, ⟨Or.inl rfl, ⟨Or.inl rfl, ⟨Or.inl rfl, ⟨Or.inl rfl, ⟨Or.inl rfl, ⟨Or.inl rfl, ⟨Or.inl rfl, ⟨Or.inl rfl, ⟨Or.inl rfl, ⟨Or.inl rfl, ⟨Or.inl rfl, ⟨Or.inr rfl, ⟨Or.inr rfl, ⟨Or.inr rfl, ⟨Or.inr rfl, ⟨Or.inl rfl, ⟨Or.inl rfl, ⟨Or.inl rfl, ⟨Or.inl rfl, ⟨Or.inl rfl, ⟨Or.inl rfl, ⟨Or.inl rfl, ⟨Or.inl rfl, ⟨Or.inl rfl, ⟨Or.inl rfl, ⟨Or.inl rfl, trivial⟩⟩⟩⟩⟩⟩⟩⟩⟩⟩⟩⟩⟩⟩⟩⟩⟩⟩⟩⟩⟩⟩⟩⟩⟩⟩⟩⟩⟩⟩⟩⟩⟩ ?_
  exact kk _ _ _ _ _ _ (v_island hI hc h4) (by show u + 2 ≤ _; omega) (by show us + 12 ≤ 64 * (u + 2); omega)
set_option maxRecDepth 100000 in
set_option maxHeartbeats 4000000 in
theorem sc_paint {E : Nat × (Nat → Int32)} (hE : E.1 ≤ 260) {o : zO} {J : Nat → Nat} {μ ν : zMu} {nc nr ni : Nat} {rf rt : Nat → Nat} (hI : iv μ ν nc nr ni rf rt) {at9 tn kd c : Nat} (hc : c < nc) {z q : Int32} {u us : Nat} (hu : u ≤ 70000) (hus : us ≤ 64 * u) (kk : ∀ (μ2 ν2 : zMu) (nc2 ni2 u2 us2 : Nat), iv μ2 ν2 nc2 nr ni2 rf rt → u2 ≤ u + 200 → us2 ≤ 64 * u2 → zV true E kL_law 0 o 2482 (.ref (0) :: .ref (1) :: .ref (J 0) :: .ref (J 1) :: .ref (J 2) :: .ref (J 3) :: .ref (J 4) :: .ref (J 5) :: .ref (J 6) :: .ref (J 7) :: .ref (J 8) :: .int (nI at9) :: .ref (J 9) :: .ref (J 10) :: .int (nI nr) :: .int (nI nc2) :: .int (nI ni2) :: .int (nI tn) :: .null :: .null :: .null :: .null :: .null :: .null :: .null :: .null :: .null :: .null :: .null :: .null :: .null :: .null :: .null :: []) [] (zm μ2 (J, 11, ν2)) u2 us2) (h0 : 0 < ni) : zV true E kL_law 0 o 2425 (.ref (0) :: .ref (1) :: .ref (J 0) :: .ref (J 1) :: .ref (J 2) :: .ref (J 3) :: .ref (J 4) :: .ref (J 5) :: .ref (J 6) :: .ref (J 7) :: .ref (J 8) :: .int (nI at9) :: .ref (J 9) :: .ref (J 10) :: .int (nI nr) :: .int (nI nc) :: .int (nI ni) :: .int (nI tn) :: .int (z) :: .int (q) :: .int (nI kd) :: .int (nI c) :: .null :: .null :: .null :: .null :: .null :: .null :: .null :: .null :: .null :: .null :: .null :: []) [] (zm μ (J, 11, ν)) u us := by
  obtain ⟨⟨⟨hnc, hn5⟩, ⟨hnr, h6, h13⟩, ⟨hni, hn4⟩⟩, hT, hL, hY, hB, hK, hA⟩ := id hI
  have hn12 : nc ≤ 12 := by omega
  refine z_iload rfl dL_law_2425 ?_
  refine z_iconst (nI 2) (by decide) dL_law_2427 ?_
  refine z_ishr dL_law_2428 ?_
  refine z_iload rfl dL_law_2429 ?_
  obtain ⟨k2431, hk2431, hl2431⟩ := ct_L_low (E := E) (μ := μ) (J := J) (m := 11) (ν := ν) (q >>> ((nI 2) &&& 31)) (n := ni) (by omega) (by omega)
  refine z_callS (as := [.int (q >>> ((nI 2) &&& 31)), .int (nI ni)]) hl2431 ko_L_low kl_L_57 rfl rfl ⟨by decide, by decide, by show u + 0 ≤ 600086; omega, by show us + 0 ≤ 7301442; omega⟩ (Nat.le_of_ble_eq_true rfl) rfl dL_law_2431 ?_
  show zV true E kL_law 0 o 2434 (.ref (0) :: .ref (1) :: .ref (J 0) :: .ref (J 1) :: .ref (J 2) :: .ref (J 3) :: .ref (J 4) :: .ref (J 5) :: .ref (J 6) :: .ref (J 7) :: .ref (J 8) :: .int (nI at9) :: .ref (J 9) :: .ref (J 10) :: .int (nI nr) :: .int (nI nc) :: .int (nI ni) :: .int (nI tn) :: .int (z) :: .int (q) :: .int (nI kd) :: .int (nI c) :: .null :: .null :: .null :: .null :: .null :: .null :: .null :: .null :: .null :: .null :: .null :: []) [.int (nI k2431)] (zm μ (J, 11, ν)) (u + 0) (us + 0)
  refine z_istore (by decide) rfl dL_law_2434 ?_
  refine z_aload_n rfl rfl dL_law_2436 ?_
  refine z_iload rfl dL_law_2437 ?_
  refine z_iload rfl dL_law_2439 ?_
  refine z_callV (as := [.int (nI c), .int (nI k2431)]) (ct_X7_paint (E := E) (μ := μ) (g := (J, 11, ν)) hnc hn12 (ni := ni) hni (by omega) (c := c) (by omega) (i := k2431) (by omega) (hB.2 c (by omega) k2431 (by omega)).1) ko_X7_paint kl_L_104 rfl (zl_a rfl rfl) rfl rfl ⟨by decide, by decide, by show u + 0 + 2 ≤ 600086; omega, by show us + 0 + 12 ≤ 7301442; omega⟩ (Nat.le_of_ble_eq_true rfl) rfl dL_law_2441 ?_
  show zV true E kL_law 0 o 2444 (.ref (0) :: .ref (1) :: .ref (J 0) :: .ref (J 1) :: .ref (J 2) :: .ref (J 3) :: .ref (J 4) :: .ref (J 5) :: .ref (J 6) :: .ref (J 7) :: .ref (J 8) :: .int (nI at9) :: .ref (J 9) :: .ref (J 10) :: .int (nI nr) :: .int (nI nc) :: .int (nI ni) :: .int (nI tn) :: .int (z) :: .int (q) :: .int (nI kd) :: .int (nI c) :: .int (nI k2431) :: .null :: .null :: .null :: .null :: .null :: .null :: .null :: .null :: .null :: .null :: []) [.int (μ (39 + 7 * c) k2431)] (zm (zu μ (39 + 7 * c) k2431 (nI 0)) (J, 11, ν)) (u + 0 + 2) (us + 0 + 12)
  refine z_aload rfl dL_law_2444 ?_
  refine z_iload rfl dL_law_2446 ?_
  refine m_xald 5 (k2431) 4 rfl (by decide) rfl (by omega) (by decide) dL_law_2448 ?_
  refine z_iload rfl dL_law_2449 ?_
  refine z_ishr dL_law_2451 ?_
  refine z_iconst (nI 1) (by decide) dL_law_2452 ?_
  refine z_iand dL_law_2453 ?_
  refine z_iconst (nI 1) (by decide) dL_law_2454 ?_
  have hbv : sbv (ν 5 k2431) c = μ (39 + 7 * c) k2431 := by
    obtain ⟨v, b1, b2, b3⟩ := hB.1 k2431 (by omega)
    exact b3 c (by omega)
  refine z_icmp_ne 2462 (by decide) dL_law_2455 (fun h2455t => ?_) (fun h2455f => ?_)
  · refine z_iconst (nI 0) (by decide) dL_law_2462 ?_
    refine z_icmp_eq 2468 (by decide) dL_law_2463 (fun h2463t => ?_) (fun h2463f => (((hB.2 c (by omega) k2431 (by omega)).1.elim h2463f (fun z => h2455t (hbv.trans z)) : False)).elim)
    refine z_aload rfl dL_law_2468 ?_
    refine z_iload rfl dL_law_2470 ?_
    refine z_dup2 rfl rfl dL_law_2472 ?_
    refine m_xald 5 (k2431) 4 rfl (by decide) rfl (by omega) (by decide) dL_law_2473 ?_
    refine z_iconst (-1) (by decide) dL_law_2474 ?_
    refine z_iconst (nI 1) (by decide) dL_law_2475 ?_
    refine z_iload rfl dL_law_2476 ?_
    refine z_ishl dL_law_2478 ?_
    refine z_isub dL_law_2479 ?_
    refine z_iand dL_law_2480 ?_
    refine m_xast 5 (k2431) 4 rfl (by decide) rfl (by omega) (by decide) dL_law_2481 ?_
    refine z_fgt (.ref (0) :: .ref (1) :: .ref (J 0) :: .ref (J 1) :: .ref (J 2) :: .ref (J 3) :: .ref (J 4) :: .ref (J 5) :: .ref (J 6) :: .ref (J 7) :: .ref (J 8) :: .int (nI at9) :: .ref (J 9) :: .ref (J 10) :: .int (nI nr) :: .int (nI nc) :: .int (nI ni) :: .int (nI tn) :: .null :: .null :: .null :: .null :: .null :: .null :: .null :: .null :: .null :: .null :: .null :: .null :: .null :: .null :: .null :: []) ⟨Or.inl rfl, ⟨Or.inl rfl, ⟨Or.inl rfl, ⟨Or.inl rfl, ⟨Or.inl rfl, ⟨Or.inl rfl, ⟨Or.inl rfl, ⟨Or.inl rfl, ⟨Or.inl rfl, ⟨Or.inl rfl, ⟨Or.inl rfl, ⟨Or.inl rfl, ⟨Or.inl rfl, ⟨Or.inl rfl, ⟨Or.inl rfl, ⟨Or.inl rfl, ⟨Or.inl rfl, ⟨Or.inl rfl, ⟨Or.inr rfl, ⟨Or.inr rfl, ⟨Or.inr rfl, ⟨Or.inr rfl, ⟨Or.inr rfl, ⟨Or.inl rfl, ⟨Or.inl rfl, ⟨Or.inl rfl, ⟨Or.inl rfl, ⟨Or.inl rfl, ⟨Or.inl rfl, ⟨Or.inl rfl, ⟨Or.inl rfl, ⟨Or.inl rfl, ⟨Or.inl rfl, trivial⟩⟩⟩⟩⟩⟩⟩⟩⟩⟩⟩⟩⟩⟩⟩⟩⟩⟩⟩⟩⟩⟩⟩⟩⟩⟩⟩⟩⟩⟩⟩⟩⟩ ?_
    exact kk _ _ _ _ _ _ (v_paint hI hc hk2431) (by show u + 0 + 2 ≤ _; omega) (by show us + 0 + 12 ≤ 64 * (u + 0 + 2); omega)
  · refine z_iconst (nI 1) (by decide) dL_law_2458 ?_
    refine z_goto 2463 (by decide) dL_law_2459 ?_
    refine z_icmp_eq 2468 (by decide) dL_law_2463 (fun h2463t => ?_) (fun h2463f => ((h2463f (hbv.symm.trans h2455f) : False)).elim)
    refine z_aload rfl dL_law_2468 ?_
    refine z_iload rfl dL_law_2470 ?_
    refine z_dup2 rfl rfl dL_law_2472 ?_
    refine m_xald 5 (k2431) 4 rfl (by decide) rfl (by omega) (by decide) dL_law_2473 ?_
    refine z_iconst (-1) (by decide) dL_law_2474 ?_
    refine z_iconst (nI 1) (by decide) dL_law_2475 ?_
    refine z_iload rfl dL_law_2476 ?_
    refine z_ishl dL_law_2478 ?_
    refine z_isub dL_law_2479 ?_
    refine z_iand dL_law_2480 ?_
    refine m_xast 5 (k2431) 4 rfl (by decide) rfl (by omega) (by decide) dL_law_2481 ?_
    refine z_fgt (.ref (0) :: .ref (1) :: .ref (J 0) :: .ref (J 1) :: .ref (J 2) :: .ref (J 3) :: .ref (J 4) :: .ref (J 5) :: .ref (J 6) :: .ref (J 7) :: .ref (J 8) :: .int (nI at9) :: .ref (J 9) :: .ref (J 10) :: .int (nI nr) :: .int (nI nc) :: .int (nI ni) :: .int (nI tn) :: .null :: .null :: .null :: .null :: .null :: .null :: .null :: .null :: .null :: .null :: .null :: .null :: .null :: .null :: .null :: []) ⟨Or.inl rfl, ⟨Or.inl rfl, ⟨Or.inl rfl, ⟨Or.inl rfl, ⟨Or.inl rfl, ⟨Or.inl rfl, ⟨Or.inl rfl, ⟨Or.inl rfl, ⟨Or.inl rfl, ⟨Or.inl rfl, ⟨Or.inl rfl, ⟨Or.inl rfl, ⟨Or.inl rfl, ⟨Or.inl rfl, ⟨Or.inl rfl, ⟨Or.inl rfl, ⟨Or.inl rfl, ⟨Or.inl rfl, ⟨Or.inr rfl, ⟨Or.inr rfl, ⟨Or.inr rfl, ⟨Or.inr rfl, ⟨Or.inr rfl, ⟨Or.inl rfl, ⟨Or.inl rfl, ⟨Or.inl rfl, ⟨Or.inl rfl, ⟨Or.inl rfl, ⟨Or.inl rfl, ⟨Or.inl rfl, ⟨Or.inl rfl, ⟨Or.inl rfl, ⟨Or.inl rfl, trivial⟩⟩⟩⟩⟩⟩⟩⟩⟩⟩⟩⟩⟩⟩⟩⟩⟩⟩⟩⟩⟩⟩⟩⟩⟩⟩⟩⟩⟩⟩⟩⟩⟩ ?_
    exact kk _ _ _ _ _ _ (v_paint hI hc hk2431) (by show u + 0 + 2 ≤ _; omega) (by show us + 0 + 12 ≤ 64 * (u + 0 + 2); omega)
set_option maxRecDepth 100000 in
set_option maxHeartbeats 4000000 in
theorem sc_lose {E : Nat × (Nat → Int32)} (hE : E.1 ≤ 260) {o : zO} {J : Nat → Nat} {μ ν : zMu} {nc nr ni : Nat} {rf rt : Nat → Nat} (hI : iv μ ν nc nr ni rf rt) {at9 tn kd c : Nat} (hc : c < nc) {z q : Int32} {u us : Nat} (hu : u ≤ 70000) (hus : us ≤ 64 * u) (kk : ∀ (μ2 ν2 : zMu) (nc2 ni2 u2 us2 : Nat), iv μ2 ν2 nc2 nr ni2 rf rt → u2 ≤ u + 200 → us2 ≤ 64 * u2 → zV true E kL_law 0 o 2482 (.ref (0) :: .ref (1) :: .ref (J 0) :: .ref (J 1) :: .ref (J 2) :: .ref (J 3) :: .ref (J 4) :: .ref (J 5) :: .ref (J 6) :: .ref (J 7) :: .ref (J 8) :: .int (nI at9) :: .ref (J 9) :: .ref (J 10) :: .int (nI nr) :: .int (nI nc2) :: .int (nI ni2) :: .int (nI tn) :: .null :: .null :: .null :: .null :: .null :: .null :: .null :: .null :: .null :: .null :: .null :: .null :: .null :: .null :: .null :: []) [] (zm μ2 (J, 11, ν2)) u2 us2) : zV true E kL_law 0 o 2353 (.ref (0) :: .ref (1) :: .ref (J 0) :: .ref (J 1) :: .ref (J 2) :: .ref (J 3) :: .ref (J 4) :: .ref (J 5) :: .ref (J 6) :: .ref (J 7) :: .ref (J 8) :: .int (nI at9) :: .ref (J 9) :: .ref (J 10) :: .int (nI nr) :: .int (nI nc) :: .int (nI ni) :: .int (nI tn) :: .int (z) :: .int (q) :: .int (nI kd) :: .int (nI c) :: .null :: .null :: .null :: .null :: .null :: .null :: .null :: .null :: .null :: .null :: .null :: []) [] (zm μ (J, 11, ν)) u us := by
  obtain ⟨⟨⟨hnc, hn5⟩, ⟨hnr, h6, h13⟩, ⟨hni, hn4⟩⟩, hT, hL, hY, hB, hK, hA⟩ := id hI
  have hn12 : nc ≤ 12 := by omega
  refine z_iload rfl dL_law_2353 ?_
  refine z_iconst (nI 2) (by decide) dL_law_2355 ?_
  refine z_ishr dL_law_2356 ?_
  refine z_bipush (nI 10) (by decide) dL_law_2357 ?_
  obtain ⟨k2359, hk2359, hl2359⟩ := ct_L_low (E := E) (μ := μ) (J := J) (m := 11) (ν := ν) (q >>> ((nI 2) &&& 31)) (n := 10) (by omega) (by omega)
  refine z_callS (as := [.int (q >>> ((nI 2) &&& 31)), .int (nI 10)]) hl2359 ko_L_low kl_L_57 rfl rfl ⟨by decide, by decide, by show u + 0 ≤ 600086; omega, by show us + 0 ≤ 7301442; omega⟩ (Nat.le_of_ble_eq_true rfl) rfl dL_law_2359 ?_
  show zV true E kL_law 0 o 2362 (.ref (0) :: .ref (1) :: .ref (J 0) :: .ref (J 1) :: .ref (J 2) :: .ref (J 3) :: .ref (J 4) :: .ref (J 5) :: .ref (J 6) :: .ref (J 7) :: .ref (J 8) :: .int (nI at9) :: .ref (J 9) :: .ref (J 10) :: .int (nI nr) :: .int (nI nc) :: .int (nI ni) :: .int (nI tn) :: .int (z) :: .int (q) :: .int (nI kd) :: .int (nI c) :: .null :: .null :: .null :: .null :: .null :: .null :: .null :: .null :: .null :: .null :: .null :: []) [.int (nI k2359)] (zm μ (J, 11, ν)) (u + 0) (us + 0)
  refine z_istore (by decide) rfl dL_law_2362 ?_
  refine z_aload rfl dL_law_2364 ?_
  refine z_bipush (nI 10) (by decide) dL_law_2366 ?_
  refine z_iload rfl dL_law_2368 ?_
  refine m_mulN dL_law_2370 ?_
  refine z_iload rfl dL_law_2371 ?_
  refine m_addN dL_law_2373 ?_
  refine m_xald 3 ((10 * c) + k2359) 64 rfl (by decide) rfl (by omega) (by decide) dL_law_2374 ?_
  refine z_bipush (-2) (by decide) dL_law_2375 ?_
  have hP := (hK c hc).2.2.1 k2359 (by omega)
  have hq := iP_kn hn5 (by omega) hP
  have hl := iP_le hn5 hP
  refine z_icmp_le 2384 (by decide) dL_law_2377 (fun h2377t => ?_) (fun h2377f => ?_)
  · refine z_iconst (nI 0) (by decide) dL_law_2384 ?_
    refine z_istore (by decide) rfl dL_law_2385 ?_
    refine z_aload_n rfl rfl dL_law_2387 ?_
    refine z_iload rfl dL_law_2388 ?_
    refine z_iload rfl dL_law_2390 ?_
    refine z_iload rfl dL_law_2392 ?_
    refine z_callV (as := [.int (nI c), .int (nI k2359), .int (nI k2359)]) (by have h := ct_X7_lose (E := E) (μ := μ) (g := (J, 11, ν)) hnc hn12 (c := c) (by omega) (f := k2359) (t := k2359) (by omega) (by omega); rw [if_neg (Nat.lt_irrefl _), lose_u (fun z => hq.mp z (hl.mp h2377t)), lose_1] at h; exact h) ko_X7_lose kl_L_101 rfl (zl_a rfl rfl) rfl rfl ⟨by decide, by decide, by show u + 0 + 4 ≤ 600086; omega, by show us + 0 + 24 ≤ 7301442; omega⟩ (Nat.le_of_ble_eq_true rfl) rfl dL_law_2394 ?_
    show zV true E kL_law 0 o 2397 (.ref (0) :: .ref (1) :: .ref (J 0) :: .ref (J 1) :: .ref (J 2) :: .ref (J 3) :: .ref (J 4) :: .ref (J 5) :: .ref (J 6) :: .ref (J 7) :: .ref (J 8) :: .int (nI at9) :: .ref (J 9) :: .ref (J 10) :: .int (nI nr) :: .int (nI nc) :: .int (nI ni) :: .int (nI tn) :: .int (z) :: .int (q) :: .int (nI kd) :: .int (nI c) :: .int (nI k2359) :: .int (nI 0) :: .null :: .null :: .null :: .null :: .null :: .null :: .null :: .null :: .null :: []) [.int (nI 0)] (zm (zput μ c k2359 100000 100000 (-1)) (J, 11, ν)) (u + 0 + 4) (us + 0 + 24)
    refine z_iload rfl dL_law_2397 ?_
    refine z_icmp_eq 2404 (by decide) dL_law_2399 (fun _ => ?_) (fun h => absurd h (by decide))
    refine z_aload rfl dL_law_2404 ?_
    refine z_bipush (nI 10) (by decide) dL_law_2406 ?_
    refine z_iload rfl dL_law_2408 ?_
    refine m_mulN dL_law_2410 ?_
    refine z_iload rfl dL_law_2411 ?_
    refine m_addN dL_law_2413 ?_
    refine z_bipush (-2) (by decide) dL_law_2414 ?_
    refine m_xast 3 ((10 * c) + k2359) 64 rfl (by decide) rfl (by omega) (by decide) dL_law_2416 ?_
    refine z_goto 2482 (by decide) dL_law_2417 ?_
    refine z_fgt (.ref (0) :: .ref (1) :: .ref (J 0) :: .ref (J 1) :: .ref (J 2) :: .ref (J 3) :: .ref (J 4) :: .ref (J 5) :: .ref (J 6) :: .ref (J 7) :: .ref (J 8) :: .int (nI at9) :: .ref (J 9) :: .ref (J 10) :: .int (nI nr) :: .int (nI nc) :: .int (nI ni) :: .int (nI tn) :: .null :: .null :: .null :: .null :: .null :: .null :: .null :: .null :: .null :: .null :: .null :: .null :: .null :: .null :: .null :: []) ⟨Or.inl rfl, ⟨Or.inl rfl, ⟨Or.inl rfl, ⟨Or.inl rfl, ⟨Or.inl rfl, ⟨Or.inl rfl, ⟨Or.inl rfl, ⟨Or.inl rfl, ⟨Or.inl rfl, ⟨Or.inl rfl, ⟨Or.inl rfl, ⟨Or.inl rfl, ⟨Or.inl rfl, ⟨Or.inl rfl, ⟨Or.inl rfl, ⟨Or.inl rfl, ⟨Or.inl rfl, ⟨Or.inl rfl, ⟨Or.inr rfl, ⟨Or.inr rfl, ⟨Or.inr rfl, ⟨Or.inr rfl, ⟨Or.inr rfl, ⟨Or.inr rfl, ⟨Or.inl rfl, ⟨Or.inl rfl, ⟨Or.inl rfl, ⟨Or.inl rfl, ⟨Or.inl rfl, ⟨Or.inl rfl, ⟨Or.inl rfl, ⟨Or.inl rfl, ⟨Or.inl rfl, trivial⟩⟩⟩⟩⟩⟩⟩⟩⟩⟩⟩⟩⟩⟩⟩⟩⟩⟩⟩⟩⟩⟩⟩⟩⟩⟩⟩⟩⟩⟩⟩⟩⟩ ?_
    exact kk _ _ _ _ _ _ (v_lose hI hc hk2359) (by show u + 0 + 4 ≤ _; omega) (by show us + 0 + 24 ≤ 64 * (u + 0 + 4); omega)
  · refine z_iconst (nI 1) (by decide) dL_law_2380 ?_
    refine z_goto 2385 (by decide) dL_law_2381 ?_
    refine z_istore (by decide) rfl dL_law_2385 ?_
    refine z_aload_n rfl rfl dL_law_2387 ?_
    refine z_iload rfl dL_law_2388 ?_
    refine z_iload rfl dL_law_2390 ?_
    refine z_iload rfl dL_law_2392 ?_
    refine z_callV (as := [.int (nI c), .int (nI k2359), .int (nI k2359)]) (by have h := ct_X7_lose (E := E) (μ := μ) (g := (J, 11, ν)) hnc hn12 (c := c) (by omega) (f := k2359) (t := k2359) (by omega) (by omega); rw [if_neg (Nat.lt_irrefl _), lose_k (hq.mpr (fun z => h2377f (hl.mpr z))), lose_1] at h; exact h) ko_X7_lose kl_L_101 rfl (zl_a rfl rfl) rfl rfl ⟨by decide, by decide, by show u + 0 + 4 ≤ 600086; omega, by show us + 0 + 24 ≤ 7301442; omega⟩ (Nat.le_of_ble_eq_true rfl) rfl dL_law_2394 ?_
    show zV true E kL_law 0 o 2397 (.ref (0) :: .ref (1) :: .ref (J 0) :: .ref (J 1) :: .ref (J 2) :: .ref (J 3) :: .ref (J 4) :: .ref (J 5) :: .ref (J 6) :: .ref (J 7) :: .ref (J 8) :: .int (nI at9) :: .ref (J 9) :: .ref (J 10) :: .int (nI nr) :: .int (nI nc) :: .int (nI ni) :: .int (nI tn) :: .int (z) :: .int (q) :: .int (nI kd) :: .int (nI c) :: .int (nI k2359) :: .int (nI 1) :: .null :: .null :: .null :: .null :: .null :: .null :: .null :: .null :: .null :: []) [.int (nI 1)] (zm (zput μ c k2359 100000 100000 (-1)) (J, 11, ν)) (u + 0 + 4) (us + 0 + 24)
    refine z_iload rfl dL_law_2397 ?_
    refine z_icmp_eq 2404 (by decide) dL_law_2399 (fun _ => ?_) (fun h => absurd h (by decide))
    refine z_aload rfl dL_law_2404 ?_
    refine z_bipush (nI 10) (by decide) dL_law_2406 ?_
    refine z_iload rfl dL_law_2408 ?_
    refine m_mulN dL_law_2410 ?_
    refine z_iload rfl dL_law_2411 ?_
    refine m_addN dL_law_2413 ?_
    refine z_bipush (-2) (by decide) dL_law_2414 ?_
    refine m_xast 3 ((10 * c) + k2359) 64 rfl (by decide) rfl (by omega) (by decide) dL_law_2416 ?_
    refine z_goto 2482 (by decide) dL_law_2417 ?_
    refine z_fgt (.ref (0) :: .ref (1) :: .ref (J 0) :: .ref (J 1) :: .ref (J 2) :: .ref (J 3) :: .ref (J 4) :: .ref (J 5) :: .ref (J 6) :: .ref (J 7) :: .ref (J 8) :: .int (nI at9) :: .ref (J 9) :: .ref (J 10) :: .int (nI nr) :: .int (nI nc) :: .int (nI ni) :: .int (nI tn) :: .null :: .null :: .null :: .null :: .null :: .null :: .null :: .null :: .null :: .null :: .null :: .null :: .null :: .null :: .null :: []) ⟨Or.inl rfl, ⟨Or.inl rfl, ⟨Or.inl rfl, ⟨Or.inl rfl, ⟨Or.inl rfl, ⟨Or.inl rfl, ⟨Or.inl rfl, ⟨Or.inl rfl, ⟨Or.inl rfl, ⟨Or.inl rfl, ⟨Or.inl rfl, ⟨Or.inl rfl, ⟨Or.inl rfl, ⟨Or.inl rfl, ⟨Or.inl rfl, ⟨Or.inl rfl, ⟨Or.inl rfl, ⟨Or.inl rfl, ⟨Or.inr rfl, ⟨Or.inr rfl, ⟨Or.inr rfl, ⟨Or.inr rfl, ⟨Or.inr rfl, ⟨Or.inr rfl, ⟨Or.inl rfl, ⟨Or.inl rfl, ⟨Or.inl rfl, ⟨Or.inl rfl, ⟨Or.inl rfl, ⟨Or.inl rfl, ⟨Or.inl rfl, ⟨Or.inl rfl, ⟨Or.inl rfl, trivial⟩⟩⟩⟩⟩⟩⟩⟩⟩⟩⟩⟩⟩⟩⟩⟩⟩⟩⟩⟩⟩⟩⟩⟩⟩⟩⟩⟩⟩⟩⟩⟩⟩ ?_
    exact kk _ _ _ _ _ _ (v_lose hI hc hk2359) (by show u + 0 + 4 ≤ _; omega) (by show us + 0 + 24 ≤ 64 * (u + 0 + 4); omega)
