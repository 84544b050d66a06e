/-! a turn of the law: copy (printed by wip/p25/gen_7.py) -/
set_option maxRecDepth 100000 in
set_option maxHeartbeats 4000000 in
theorem lp_B1 {E : Nat × (Nat → Int32)} (hE : E.1 ≤ 260) {o : zO} {J : Nat → Nat} {μ ν : zMu} {nc nr ni at9 tn kd c man way wh : Nat} {nm : Nat → Nat} (hc : c < nc) (h5 : nc < 5) (hman : man < 4) (hway : way < 3) (hn1 : ∀ i, i < 10 → ν 2 (10 * c + i) = nI (nm i) ∧ 1 ≤ nm i ∧ nm i ≤ 12) {z q : Int32} {u us : Nat}  (kk : zV true E kL_law 0 o 1342 (.ref (0) :: .ref (1) :: .ref (J 0) :: .ref (J 1) :: .ref (J 2) :: .ref (J 3) :: .ref (J 4) :: .ref (J 5) :: .ref (J 6) :: .ref (J 7) :: .ref (J 8) :: .int (nI at9) :: .ref (J 9) :: .ref (J 10) :: .int (nI nr) :: .int (nI nc) :: .int (nI ni) :: .int (nI tn) :: .int (z) :: .int (q) :: .int (nI kd) :: .int (nI c) :: .int (nI man) :: .int (nI way) :: .int (nI wh) :: .null :: .null :: .null :: .null :: .null :: .null :: .null :: .null :: []) [] (zm μ (J, 11, (zit (lcp c nc man (nI way) nm) 0 10 ν))) u us) : ∀ (n : Nat) (p : Nat), 10 - p = n → p ≤ 10 → zV true E kL_law 0 o 1180 (.ref (0) :: .ref (1) :: .ref (J 0) :: .ref (J 1) :: .ref (J 2) :: .ref (J 3) :: .ref (J 4) :: .ref (J 5) :: .ref (J 6) :: .ref (J 7) :: .ref (J 8) :: .int (nI at9) :: .ref (J 9) :: .ref (J 10) :: .int (nI nr) :: .int (nI nc) :: .int (nI ni) :: .int (nI tn) :: .int (z) :: .int (q) :: .int (nI kd) :: .int (nI c) :: .int (nI man) :: .int (nI way) :: .int (nI wh) :: .int (nI p) :: .null :: .null :: .null :: .null :: .null :: .null :: .null :: []) [] (zm μ (J, 11, (zit (lcp c nc man (nI way) nm) 0 p ν))) u us := by
  intro n
  induction n using Nat.strongRecOn with
  | ind n ih =>
    intro p e h10
    refine z_iload rfl dL_law_1180 ?_
    refine z_bipush (nI 10) (by decide) dL_law_1182 ?_
    refine z_icmp_ge 1342 (by decide) dL_law_1184 (z_br (zcn (n := 10) (by omega) (p) (by omega)).2.2 (fun h1184t => ?_)) (z_brn (zcn (n := 10) (by omega) (p) (by omega)).2.2 (fun h1184f => ?_))
    · obtain rfl : p = 10 := by omega
      refine z_fgt (.ref (0) :: .ref (1) :: .ref (J 0) :: .ref (J 1) :: .ref (J 2) :: .ref (J 3) :: .ref (J 4) :: .ref (J 5) :: .ref (J 6) :: .ref (J 7) :: .ref (J 8) :: .int (nI at9) :: .ref (J 9) :: .ref (J 10) :: .int (nI nr) :: .int (nI nc) :: .int (nI ni) :: .int (nI tn) :: .int (z) :: .int (q) :: .int (nI kd) :: .int (nI c) :: .int (nI man) :: .int (nI way) :: .int (nI wh) :: .null :: .null :: .null :: .null :: .null :: .null :: .null :: .null :: []) ⟨Or.inl rfl, ⟨Or.inl rfl, ⟨Or.inl rfl, ⟨Or.inl rfl, ⟨Or.inl rfl, ⟨Or.inl rfl, ⟨Or.inl rfl, ⟨Or.inl rfl, ⟨Or.inl rfl, ⟨Or.inl rfl, ⟨Or.inl rfl, ⟨Or.inl rfl, ⟨Or.inl rfl, ⟨Or.inl rfl, ⟨Or.inl rfl, ⟨Or.inl rfl, ⟨Or.inl rfl, ⟨Or.inl rfl, ⟨Or.inl rfl, ⟨Or.inl rfl, ⟨Or.inl rfl, ⟨Or.inl rfl, ⟨Or.inl rfl, ⟨Or.inl rfl, ⟨Or.inl rfl, ⟨Or.inr rfl, ⟨Or.inl rfl, ⟨Or.inl rfl, ⟨Or.inl rfl, ⟨Or.inl rfl, ⟨Or.inl rfl, ⟨Or.inl rfl, ⟨Or.inl rfl, trivial⟩⟩⟩⟩⟩⟩⟩⟩⟩⟩⟩⟩⟩⟩⟩⟩⟩⟩⟩⟩⟩⟩⟩⟩⟩⟩⟩⟩⟩⟩⟩⟩⟩ ?_
      exact kk
    · obtain ⟨V0, hV0⟩ : ∃ V, V = zit (lcp c nc man (nI way) nm) 0 p ν := ⟨_, rfl⟩
      rw [← hV0]
      have hnm9 : V0 2 (10 * c + p) = nI (nm p) := by rw [hV0, lcp_k ν (by omega) p (by omega)]; exact (hn1 p (by omega)).1
      have hnm1 := (hn1 p (by omega)).2
      refine z_bipush (nI 10) (by decide) dL_law_1187 ?_
      refine z_iload rfl dL_law_1189 ?_
      refine m_mulN dL_law_1191 ?_
      refine z_iload rfl dL_law_1192 ?_
      refine m_addN dL_law_1194 ?_
      refine z_istore (by decide) rfl dL_law_1195 ?_
      refine z_bipush (nI 10) (by decide) dL_law_1197 ?_
      refine z_iload rfl dL_law_1199 ?_
      refine m_mulN dL_law_1201 ?_
      refine z_iload rfl dL_law_1202 ?_
      refine m_addN dL_law_1204 ?_
      refine z_istore (by decide) rfl dL_law_1205 ?_
      have secN : zV true E kL_law 0 o 1295 (.ref (0) :: .ref (1) :: .ref (J 0) :: .ref (J 1) :: .ref (J 2) :: .ref (J 3) :: .ref (J 4) :: .ref (J 5) :: .ref (J 6) :: .ref (J 7) :: .ref (J 8) :: .int (nI at9) :: .ref (J 9) :: .ref (J 10) :: .int (nI nr) :: .int (nI nc) :: .int (nI ni) :: .int (nI tn) :: .int (z) :: .int (q) :: .int (nI kd) :: .int (nI c) :: .int (nI man) :: .int (nI way) :: .int (nI wh) :: .int (nI p) :: .int (nI ((10 * c) + p)) :: .int (nI ((10 * nc) + p)) :: .null :: .null :: .null :: .null :: .null :: []) [] (zm μ (J, 11, (lcp2 c nc man (nI way) p (lcp1 c nc man (nI way) p V0)))) u us := by
        refine z_aload rfl dL_law_1295 ?_
        refine z_iload rfl dL_law_1297 ?_
        refine z_aload rfl dL_law_1299 ?_
        refine z_bipush (nI 16) (by decide) dL_law_1301 ?_
        refine z_iload rfl dL_law_1303 ?_
        refine m_mulN dL_law_1305 ?_
        refine z_aload rfl dL_law_1306 ?_
        refine z_iload rfl dL_law_1308 ?_
        refine m_xald 2 ((10 * c) + p) 64 rfl (by decide) rfl (by omega) (by decide) dL_law_1310 ?_
        refine m_eqv (w := nI (nm p)) (by unfold lcp2 lcp1; rw [zu_o (by decide), zu_o (by decide)]; exact hnm9) ?_
        refine m_addN dL_law_1311 ?_
        refine m_xald 8 ((16 * man) + (nm p)) 64 rfl (by decide) rfl (by omega) (by decide) dL_law_1312 ?_
        refine m_xast 2 ((10 * nc) + p) 64 rfl (by decide) rfl (by omega) (by decide) dL_law_1313 ?_
        show zV true E kL_law 0 o 1314 (.ref (0) :: .ref (1) :: .ref (J 0) :: .ref (J 1) :: .ref (J 2) :: .ref (J 3) :: .ref (J 4) :: .ref (J 5) :: .ref (J 6) :: .ref (J 7) :: .ref (J 8) :: .int (nI at9) :: .ref (J 9) :: .ref (J 10) :: .int (nI nr) :: .int (nI nc) :: .int (nI ni) :: .int (nI tn) :: .int (z) :: .int (q) :: .int (nI kd) :: .int (nI c) :: .int (nI man) :: .int (nI way) :: .int (nI wh) :: .int (nI p) :: .int (nI ((10 * c) + p)) :: .int (nI ((10 * nc) + p)) :: .null :: .null :: .null :: .null :: .null :: []) [] (zm μ (J, 11, (lcp3 nc man nm p (lcp2 c nc man (nI way) p (lcp1 c nc man (nI way) p V0))))) u us
        refine z_aload rfl dL_law_1314 ?_
        refine z_iload rfl dL_law_1316 ?_
        refine z_aload rfl dL_law_1318 ?_
        refine z_iload rfl dL_law_1320 ?_
        refine m_xald 3 ((10 * c) + p) 64 rfl (by decide) rfl (by omega) (by decide) dL_law_1322 ?_
        refine z_bipush (-2) (by decide) dL_law_1323 ?_
        refine z_icmp_ne 1333 (by decide) dL_law_1325 (fun h1325t => ?_) (fun h1325f => ?_)
        · refine z_iload rfl dL_law_1333 ?_
          refine m_eqv (w := if (lcp3 nc man nm p (lcp2 c nc man (nI way) p (lcp1 c nc man (nI way) p V0))) 3 ((10 * c) + p) = -2 then -2 else nI c) (by rw [if_neg h1325t]) ?_
          refine m_xast 3 ((10 * nc) + p) 64 rfl (by decide) rfl (by omega) (by decide) dL_law_1335 ?_
          refine z_iinc (nI (p + 1)) rfl (zincN _ 1) (by decide) rfl dL_law_1336 ?_
          refine z_goto 1180 (by decide) dL_law_1339 ?_
          show zV true E kL_law 0 o 1180 (.ref (0) :: .ref (1) :: .ref (J 0) :: .ref (J 1) :: .ref (J 2) :: .ref (J 3) :: .ref (J 4) :: .ref (J 5) :: .ref (J 6) :: .ref (J 7) :: .ref (J 8) :: .int (nI at9) :: .ref (J 9) :: .ref (J 10) :: .int (nI nr) :: .int (nI nc) :: .int (nI ni) :: .int (nI tn) :: .int (z) :: .int (q) :: .int (nI kd) :: .int (nI c) :: .int (nI man) :: .int (nI way) :: .int (nI wh) :: .int (nI (p + 1)) :: .int (nI ((10 * c) + p)) :: .int (nI ((10 * nc) + p)) :: .null :: .null :: .null :: .null :: .null :: []) [] (zm μ (J, 11, (lcp c nc man (nI way) nm p V0))) u us
          rw [hV0, ← lcp_n]
          refine z_fgt (.ref (0) :: .ref (1) :: .ref (J 0) :: .ref (J 1) :: .ref (J 2) :: .ref (J 3) :: .ref (J 4) :: .ref (J 5) :: .ref (J 6) :: .ref (J 7) :: .ref (J 8) :: .int (nI at9) :: .ref (J 9) :: .ref (J 10) :: .int (nI nr) :: .int (nI nc) :: .int (nI ni) :: .int (nI tn) :: .int (z) :: .int (q) :: .int (nI kd) :: .int (nI c) :: .int (nI man) :: .int (nI way) :: .int (nI wh) :: .int (nI (p + 1)) :: .null :: .null :: .null :: .null :: .null :: .null :: .null :: []) ⟨Or.inl rfl, ⟨Or.inl rfl, ⟨Or.inl rfl, ⟨Or.inl rfl, ⟨Or.inl rfl, ⟨Or.inl rfl, ⟨Or.inl rfl, ⟨Or.inl rfl, ⟨Or.inl rfl, ⟨Or.inl rfl, ⟨Or.inl rfl, ⟨Or.inl rfl, ⟨Or.inl rfl, ⟨Or.inl rfl, ⟨Or.inl rfl, ⟨Or.inl rfl, ⟨Or.inl rfl, ⟨Or.inl rfl, ⟨Or.inl rfl, ⟨Or.inl rfl, ⟨Or.inl rfl, ⟨Or.inl rfl, ⟨Or.inl rfl, ⟨Or.inl rfl, ⟨Or.inl rfl, ⟨Or.inl rfl, ⟨Or.inr rfl, ⟨Or.inr rfl, ⟨Or.inl rfl, ⟨Or.inl rfl, ⟨Or.inl rfl, ⟨Or.inl rfl, ⟨Or.inl rfl, trivial⟩⟩⟩⟩⟩⟩⟩⟩⟩⟩⟩⟩⟩⟩⟩⟩⟩⟩⟩⟩⟩⟩⟩⟩⟩⟩⟩⟩⟩⟩⟩⟩⟩ ?_
          exact ih (10 - (p + 1)) (by omega) (p + 1) rfl (by omega)
        · refine z_bipush (-2) (by decide) dL_law_1328 ?_
          refine z_goto 1335 (by decide) dL_law_1330 ?_
          refine m_eqv (w := if (lcp3 nc man nm p (lcp2 c nc man (nI way) p (lcp1 c nc man (nI way) p V0))) 3 ((10 * c) + p) = -2 then -2 else nI c) (by rw [if_pos h1325f]) ?_
          refine m_xast 3 ((10 * nc) + p) 64 rfl (by decide) rfl (by omega) (by decide) dL_law_1335 ?_
          refine z_iinc (nI (p + 1)) rfl (zincN _ 1) (by decide) rfl dL_law_1336 ?_
          refine z_goto 1180 (by decide) dL_law_1339 ?_
          show zV true E kL_law 0 o 1180 (.ref (0) :: .ref (1) :: .ref (J 0) :: .ref (J 1) :: .ref (J 2) :: .ref (J 3) :: .ref (J 4) :: .ref (J 5) :: .ref (J 6) :: .ref (J 7) :: .ref (J 8) :: .int (nI at9) :: .ref (J 9) :: .ref (J 10) :: .int (nI nr) :: .int (nI nc) :: .int (nI ni) :: .int (nI tn) :: .int (z) :: .int (q) :: .int (nI kd) :: .int (nI c) :: .int (nI man) :: .int (nI way) :: .int (nI wh) :: .int (nI (p + 1)) :: .int (nI ((10 * c) + p)) :: .int (nI ((10 * nc) + p)) :: .null :: .null :: .null :: .null :: .null :: []) [] (zm μ (J, 11, (lcp c nc man (nI way) nm p V0))) u us
          rw [hV0, ← lcp_n]
          refine z_fgt (.ref (0) :: .ref (1) :: .ref (J 0) :: .ref (J 1) :: .ref (J 2) :: .ref (J 3) :: .ref (J 4) :: .ref (J 5) :: .ref (J 6) :: .ref (J 7) :: .ref (J 8) :: .int (nI at9) :: .ref (J 9) :: .ref (J 10) :: .int (nI nr) :: .int (nI nc) :: .int (nI ni) :: .int (nI tn) :: .int (z) :: .int (q) :: .int (nI kd) :: .int (nI c) :: .int (nI man) :: .int (nI way) :: .int (nI wh) :: .int (nI (p + 1)) :: .null :: .null :: .null :: .null :: .null :: .null :: .null :: []) ⟨Or.inl rfl, ⟨Or.inl rfl, ⟨Or.inl rfl, ⟨Or.inl rfl, ⟨Or.inl rfl, ⟨Or.inl rfl, ⟨Or.inl rfl, ⟨Or.inl rfl, ⟨Or.inl rfl, ⟨Or.inl rfl, ⟨Or.inl rfl, ⟨Or.inl rfl, ⟨Or.inl rfl, ⟨Or.inl rfl, ⟨Or.inl rfl, ⟨Or.inl rfl, ⟨Or.inl rfl, ⟨Or.inl rfl, ⟨Or.inl rfl, ⟨Or.inl rfl, ⟨Or.inl rfl, ⟨Or.inl rfl, ⟨Or.inl rfl, ⟨Or.inl rfl, ⟨Or.inl rfl, ⟨Or.inl rfl, ⟨Or.inr rfl, ⟨Or.inr rfl, ⟨Or.inl rfl, ⟨Or.inl rfl, ⟨Or.inl rfl, ⟨Or.inl rfl, ⟨Or.inl rfl, trivial⟩⟩⟩⟩⟩⟩⟩⟩⟩⟩⟩⟩⟩⟩⟩⟩⟩⟩⟩⟩⟩⟩⟩⟩⟩⟩⟩⟩⟩⟩⟩⟩⟩ ?_
          exact ih (10 - (p + 1)) (by omega) (p + 1) rfl (by omega)
      have secY : zV true E kL_law 0 o 1251 (.ref (0) :: .ref (1) :: .ref (J 0) :: .ref (J 1) :: .ref (J 2) :: .ref (J 3) :: .ref (J 4) :: .ref (J 5) :: .ref (J 6) :: .ref (J 7) :: .ref (J 8) :: .int (nI at9) :: .ref (J 9) :: .ref (J 10) :: .int (nI nr) :: .int (nI nc) :: .int (nI ni) :: .int (nI tn) :: .int (z) :: .int (q) :: .int (nI kd) :: .int (nI c) :: .int (nI man) :: .int (nI way) :: .int (nI wh) :: .int (nI p) :: .int (nI ((10 * c) + p)) :: .int (nI ((10 * nc) + p)) :: .null :: .null :: .null :: .null :: .null :: []) [] (zm μ (J, 11, (lcp1 c nc man (nI way) p V0))) u us := by
        refine z_aload_n rfl rfl dL_law_1251 ?_
        refine z_iload rfl dL_law_1252 ?_
        refine z_iload rfl dL_law_1254 ?_
        refine z_iconst (nI 1) (by decide) dL_law_1256 ?_
        refine z_icmp_ne 1271 (by decide) dL_law_1257 (z_brn (zcn (n := way) (by omega) (1) (by omega)).1 (fun h1257t => ?_)) (z_br (zcn (n := way) (by omega) (1) (by omega)).1 (fun h1257f => ?_))
        · refine z_iload rfl dL_law_1271 ?_
          refine z_iconst (nI 2) (by decide) dL_law_1273 ?_
          refine z_icmp_ne 1290 (by decide) dL_law_1274 (z_brn (zcn (n := way) (by omega) (2) (by omega)).1 (fun h1274t => ?_)) (z_br (zcn (n := way) (by omega) (2) (by omega)).1 (fun h1274f => ?_))
          · refine z_aload_n rfl rfl dL_law_1290 ?_
            refine z_iload rfl dL_law_1291 ?_
            refine m_xald 1 ((10 * c) + p) 64 rfl (by decide) rfl (by omega) (by decide) dL_law_1293 ?_
            refine m_eqv (w := zdraw ((lcp1 c nc man (nI way) p V0) 1 ((10 * c) + p)) (nI way) (-((lcp1 c nc man (nI way) p V0) 7 man))) (by rw [zdraw, if_neg (show ¬ nI way = 1 from fun q => h1257t ((nI_eq (a := way) (b := 1) (by omega) (by omega)).mp q)), if_neg (show ¬ nI way = 2 from fun q => h1274t ((nI_eq (a := way) (b := 2) (by omega) (by omega)).mp q))]) ?_
            refine m_xast 1 ((10 * nc) + p) 64 rfl (by decide) rfl (by omega) (by decide) dL_law_1294 ?_
            exact secN
          · refine z_aload_n rfl rfl dL_law_1277 ?_
            refine z_iload rfl dL_law_1278 ?_
            refine m_xald 1 ((10 * c) + p) 64 rfl (by decide) rfl (by omega) (by decide) dL_law_1280 ?_
            refine z_aload rfl dL_law_1281 ?_
            refine z_iload rfl dL_law_1283 ?_
            refine m_xald 7 (man) 4 rfl (by decide) rfl (by omega) (by decide) dL_law_1285 ?_
            refine z_isub dL_law_1286 ?_
            refine z_goto 1294 (by decide) dL_law_1287 ?_
            refine m_eqv (w := zdraw ((lcp1 c nc man (nI way) p V0) 1 ((10 * c) + p)) (nI way) (-((lcp1 c nc man (nI way) p V0) 7 man))) (by rw [zdraw, if_neg (show ¬ nI way = 1 from fun q => h1257t ((nI_eq (a := way) (b := 1) (by omega) (by omega)).mp q)), if_pos (by rw [h1274f]; rfl), Int32.sub_eq_add_neg]) ?_
            refine m_xast 1 ((10 * nc) + p) 64 rfl (by decide) rfl (by omega) (by decide) dL_law_1294 ?_
            exact secN
        · refine z_aload_n rfl rfl dL_law_1260 ?_
          refine z_iload rfl dL_law_1261 ?_
          refine m_xald 1 ((10 * c) + p) 64 rfl (by decide) rfl (by omega) (by decide) dL_law_1263 ?_
          refine z_iconst (nI 5) (by decide) dL_law_1264 ?_
          refine z_idiv (by decide) dL_law_1265 ?_
          refine z_iconst (nI 5) (by decide) dL_law_1266 ?_
          refine z_imul dL_law_1267 ?_
          refine z_goto 1294 (by decide) dL_law_1268 ?_
          refine m_eqv (w := zdraw ((lcp1 c nc man (nI way) p V0) 1 ((10 * c) + p)) (nI way) (-((lcp1 c nc man (nI way) p V0) 7 man))) (by rw [zdraw, if_pos (by rw [h1257f]; rfl)]) ?_
          refine m_xast 1 ((10 * nc) + p) 64 rfl (by decide) rfl (by omega) (by decide) dL_law_1294 ?_
          exact secN
      refine z_aload_n rfl rfl dL_law_1207 ?_
      refine z_iload rfl dL_law_1208 ?_
      refine z_iload rfl dL_law_1210 ?_
      refine z_iconst (nI 1) (by decide) dL_law_1212 ?_
      refine z_icmp_ne 1227 (by decide) dL_law_1213 (z_brn (zcn (n := way) (by omega) (1) (by omega)).1 (fun h1213t => ?_)) (z_br (zcn (n := way) (by omega) (1) (by omega)).1 (fun h1213f => ?_))
      · refine z_iload rfl dL_law_1227 ?_
        refine z_iconst (nI 2) (by decide) dL_law_1229 ?_
        refine z_icmp_ne 1246 (by decide) dL_law_1230 (z_brn (zcn (n := way) (by omega) (2) (by omega)).1 (fun h1230t => ?_)) (z_br (zcn (n := way) (by omega) (2) (by omega)).1 (fun h1230f => ?_))
        · refine z_aload_n rfl rfl dL_law_1246 ?_
          refine z_iload rfl dL_law_1247 ?_
          refine m_xald 0 ((10 * c) + p) 64 rfl (by decide) rfl (by omega) (by decide) dL_law_1249 ?_
          refine m_eqv (w := zdraw ((V0) 0 ((10 * c) + p)) (nI way) ((V0) 7 man)) (by rw [zdraw, if_neg (show ¬ nI way = 1 from fun q => h1213t ((nI_eq (a := way) (b := 1) (by omega) (by omega)).mp q)), if_neg (show ¬ nI way = 2 from fun q => h1230t ((nI_eq (a := way) (b := 2) (by omega) (by omega)).mp q))]) ?_
          refine m_xast 0 ((10 * nc) + p) 64 rfl (by decide) rfl (by omega) (by decide) dL_law_1250 ?_
          exact secY
        · refine z_aload_n rfl rfl dL_law_1233 ?_
          refine z_iload rfl dL_law_1234 ?_
          refine m_xald 0 ((10 * c) + p) 64 rfl (by decide) rfl (by omega) (by decide) dL_law_1236 ?_
          refine z_aload rfl dL_law_1237 ?_
          refine z_iload rfl dL_law_1239 ?_
          refine m_xald 7 (man) 4 rfl (by decide) rfl (by omega) (by decide) dL_law_1241 ?_
          refine z_iadd dL_law_1242 ?_
          refine z_goto 1250 (by decide) dL_law_1243 ?_
          refine m_eqv (w := zdraw ((V0) 0 ((10 * c) + p)) (nI way) ((V0) 7 man)) (by rw [zdraw, if_neg (show ¬ nI way = 1 from fun q => h1213t ((nI_eq (a := way) (b := 1) (by omega) (by omega)).mp q)), if_pos (by rw [h1230f]; rfl)]) ?_
          refine m_xast 0 ((10 * nc) + p) 64 rfl (by decide) rfl (by omega) (by decide) dL_law_1250 ?_
          exact secY
      · refine z_aload_n rfl rfl dL_law_1216 ?_
        refine z_iload rfl dL_law_1217 ?_
        refine m_xald 0 ((10 * c) + p) 64 rfl (by decide) rfl (by omega) (by decide) dL_law_1219 ?_
        refine z_iconst (nI 5) (by decide) dL_law_1220 ?_
        refine z_idiv (by decide) dL_law_1221 ?_
        refine z_iconst (nI 5) (by decide) dL_law_1222 ?_
        refine z_imul dL_law_1223 ?_
        refine z_goto 1250 (by decide) dL_law_1224 ?_
        refine m_eqv (w := zdraw ((V0) 0 ((10 * c) + p)) (nI way) ((V0) 7 man)) (by rw [zdraw, if_pos (by rw [h1213f]; rfl)]) ?_
        refine m_xast 0 ((10 * nc) + p) 64 rfl (by decide) rfl (by omega) (by decide) dL_law_1250 ?_
        exact secY
set_option maxRecDepth 100000 in
set_option maxHeartbeats 4000000 in
theorem lp_B2 {E : Nat × (Nat → Int32)} (hE : E.1 ≤ 260) {o : zO} {J : Nat → Nat} {μ ν : zMu} {nc nr ni at9 tn kd c man way wh : Nat} (hc : c < nc) (h5 : nc < 5) (hn4 : ni ≤ 4) {z q : Int32} {u us : Nat}  (kk : zV true E kL_law 0 o 1384 (.ref (0) :: .ref (1) :: .ref (J 0) :: .ref (J 1) :: .ref (J 2) :: .ref (J 3) :: .ref (J 4) :: .ref (J 5) :: .ref (J 6) :: .ref (J 7) :: .ref (J 8) :: .int (nI at9) :: .ref (J 9) :: .ref (J 10) :: .int (nI nr) :: .int (nI nc) :: .int (nI ni) :: .int (nI tn) :: .int (z) :: .int (q) :: .int (nI kd) :: .int (nI c) :: .int (nI man) :: .int (nI way) :: .int (nI wh) :: .null :: .null :: .null :: .null :: .null :: .null :: .null :: .null :: []) [] (zm μ (J, 11, (zit (lbi c nc) 0 ni ν))) u us) : ∀ (n : Nat) (p : Nat), ni - p = n → p ≤ ni → zV true E kL_law 0 o 1345 (.ref (0) :: .ref (1) :: .ref (J 0) :: .ref (J 1) :: .ref (J 2) :: .ref (J 3) :: .ref (J 4) :: .ref (J 5) :: .ref (J 6) :: .ref (J 7) :: .ref (J 8) :: .int (nI at9) :: .ref (J 9) :: .ref (J 10) :: .int (nI nr) :: .int (nI nc) :: .int (nI ni) :: .int (nI tn) :: .int (z) :: .int (q) :: .int (nI kd) :: .int (nI c) :: .int (nI man) :: .int (nI way) :: .int (nI wh) :: .int (nI p) :: .null :: .null :: .null :: .null :: .null :: .null :: .null :: []) [] (zm μ (J, 11, (zit (lbi c nc) 0 p ν))) u us := by
  intro n
  induction n using Nat.strongRecOn with
  | ind n ih =>
    intro p e h10
    refine z_iload rfl dL_law_1345 ?_
    refine z_iload rfl dL_law_1347 ?_
    refine z_icmp_ge 1384 (by decide) dL_law_1349 (z_br (zcn (n := ni) (by omega) (p) (by omega)).2.2 (fun h1349t => ?_)) (z_brn (zcn (n := ni) (by omega) (p) (by omega)).2.2 (fun h1349f => ?_))
    · obtain rfl : ni = p := by omega
      refine z_fgt (.ref (0) :: .ref (1) :: .ref (J 0) :: .ref (J 1) :: .ref (J 2) :: .ref (J 3) :: .ref (J 4) :: .ref (J 5) :: .ref (J 6) :: .ref (J 7) :: .ref (J 8) :: .int (nI at9) :: .ref (J 9) :: .ref (J 10) :: .int (nI nr) :: .int (nI nc) :: .int (nI ni) :: .int (nI tn) :: .int (z) :: .int (q) :: .int (nI kd) :: .int (nI c) :: .int (nI man) :: .int (nI way) :: .int (nI wh) :: .null :: .null :: .null :: .null :: .null :: .null :: .null :: .null :: []) ⟨Or.inl rfl, ⟨Or.inl rfl, ⟨Or.inl rfl, ⟨Or.inl rfl, ⟨Or.inl rfl, ⟨Or.inl rfl, ⟨Or.inl rfl, ⟨Or.inl rfl, ⟨Or.inl rfl, ⟨Or.inl rfl, ⟨Or.inl rfl, ⟨Or.inl rfl, ⟨Or.inl rfl, ⟨Or.inl rfl, ⟨Or.inl rfl, ⟨Or.inl rfl, ⟨Or.inl rfl, ⟨Or.inl rfl, ⟨Or.inl rfl, ⟨Or.inl rfl, ⟨Or.inl rfl, ⟨Or.inl rfl, ⟨Or.inl rfl, ⟨Or.inl rfl, ⟨Or.inl rfl, ⟨Or.inr rfl, ⟨Or.inl rfl, ⟨Or.inl rfl, ⟨Or.inl rfl, ⟨Or.inl rfl, ⟨Or.inl rfl, ⟨Or.inl rfl, ⟨Or.inl rfl, trivial⟩⟩⟩⟩⟩⟩⟩⟩⟩⟩⟩⟩⟩⟩⟩⟩⟩⟩⟩⟩⟩⟩⟩⟩⟩⟩⟩⟩⟩⟩⟩⟩⟩ ?_
      exact kk
    · refine z_aload rfl dL_law_1352 ?_
      refine z_iload rfl dL_law_1354 ?_
      refine m_xald 5 (p) 4 rfl (by decide) rfl (by omega) (by decide) dL_law_1356 ?_
      refine z_iload rfl dL_law_1357 ?_
      refine z_ishr dL_law_1359 ?_
      refine z_iconst (nI 1) (by decide) dL_law_1360 ?_
      refine z_iand dL_law_1361 ?_
      refine z_iconst (nI 1) (by decide) dL_law_1362 ?_
      refine z_icmp_ne 1378 (by decide) dL_law_1363 (fun h1363t => ?_) (fun h1363f => ?_)
      · refine z_iinc (nI (p + 1)) rfl (zincN _ 1) (by decide) rfl dL_law_1378 ?_
        refine z_goto 1345 (by decide) dL_law_1381 ?_
        rw [lbi_sq h1363t]
        exact ih (ni - (p + 1)) (by omega) (p + 1) rfl (by omega)
      · refine z_aload rfl dL_law_1366 ?_
        refine z_iload rfl dL_law_1368 ?_
        refine z_dup2 rfl rfl dL_law_1370 ?_
        refine m_xald 5 (p) 4 rfl (by decide) rfl (by omega) (by decide) dL_law_1371 ?_
        refine z_iconst (nI 1) (by decide) dL_law_1372 ?_
        refine z_iload rfl dL_law_1373 ?_
        refine z_ishl dL_law_1375 ?_
        refine z_ior dL_law_1376 ?_
        refine m_xast 5 (p) 4 rfl (by decide) rfl (by omega) (by decide) dL_law_1377 ?_
        refine z_iinc (nI (p + 1)) rfl (zincN _ 1) (by decide) rfl dL_law_1378 ?_
        refine z_goto 1345 (by decide) dL_law_1381 ?_
        rw [lbi_sp h1363f]
        exact ih (ni - (p + 1)) (by omega) (p + 1) rfl (by omega)
set_option maxRecDepth 100000 in
set_option maxHeartbeats 4000000 in
theorem sc_copy {E : Nat × (Nat → Int32)} (hE : E.1 ≤ 260) {o : zO} {J : Nat → Nat} {μ ν : zMu} {nc nr ni : Nat} {rf rt : Nat → Nat} (hI : iv μ ν nc nr ni rf rt) {at9 tn kd c : Nat} (hc : c < nc) {z q : Int32} {u us : Nat} (hu : u ≤ 70000) (hus : us ≤ 64 * u) (kk : ∀ (μ2 ν2 : zMu) (nc2 ni2 u2 us2 : Nat), iv μ2 ν2 nc2 nr ni2 rf rt → u2 ≤ u + 200 → us2 ≤ 64 * u2 → zV true E kL_law 0 o 2482 (.ref (0) :: .ref (1) :: .ref (J 0) :: .ref (J 1) :: .ref (J 2) :: .ref (J 3) :: .ref (J 4) :: .ref (J 5) :: .ref (J 6) :: .ref (J 7) :: .ref (J 8) :: .int (nI at9) :: .ref (J 9) :: .ref (J 10) :: .int (nI nr) :: .int (nI nc2) :: .int (nI ni2) :: .int (nI tn) :: .null :: .null :: .null :: .null :: .null :: .null :: .null :: .null :: .null :: .null :: .null :: .null :: .null :: .null :: .null :: []) [] (zm μ2 (J, 11, ν2)) u2 us2) (h5 : nc < 5) : zV true E kL_law 0 o 1124 (.ref (0) :: .ref (1) :: .ref (J 0) :: .ref (J 1) :: .ref (J 2) :: .ref (J 3) :: .ref (J 4) :: .ref (J 5) :: .ref (J 6) :: .ref (J 7) :: .ref (J 8) :: .int (nI at9) :: .ref (J 9) :: .ref (J 10) :: .int (nI nr) :: .int (nI nc) :: .int (nI ni) :: .int (nI tn) :: .int (z) :: .int (q) :: .int (nI kd) :: .int (nI c) :: .null :: .null :: .null :: .null :: .null :: .null :: .null :: .null :: .null :: .null :: .null :: []) [] (zm μ (J, 11, ν)) u us := by
  obtain ⟨⟨⟨hnc, hn5⟩, ⟨hnr, h6, h13⟩, ⟨hni, hn4⟩⟩, hT, hL, hY, hB, hK, hA⟩ := id hI
  have hn12 : nc ≤ 12 := by omega
  obtain ⟨nm, hnm, hn1, hn2⟩ := nm_ex hc hK
  obtain ⟨⟨y33, y, hy1, hy2, hy⟩, hsc, hP, hO⟩ := hK c hc
  refine z_iload rfl dL_law_1124 ?_
  refine z_iconst (nI 4) (by decide) dL_law_1126 ?_
  obtain ⟨k1127, hk1127, hl1127⟩ := ct_L_low (E := E) (μ := μ) (J := J) (m := 11) (ν := ν) (q) (n := 4) (by omega) (by omega)
  refine z_callS (as := [.int (q), .int (nI 4)]) hl1127 ko_L_low kl_L_57 rfl rfl ⟨by decide, by decide, by show u + 0 ≤ 600086; omega, by show us + 0 ≤ 7301442; omega⟩ (Nat.le_of_ble_eq_true rfl) rfl dL_law_1127 ?_
  show zV true E kL_law 0 o 1130 (.ref (0) :: .ref (1) :: .ref (J 0) :: .ref (J 1) :: .ref (J 2) :: .ref (J 3) :: .ref (J 4) :: .ref (J 5) :: .ref (J 6) :: .ref (J 7) :: .ref (J 8) :: .int (nI at9) :: .ref (J 9) :: .ref (J 10) :: .int (nI nr) :: .int (nI nc) :: .int (nI ni) :: .int (nI tn) :: .int (z) :: .int (q) :: .int (nI kd) :: .int (nI c) :: .null :: .null :: .null :: .null :: .null :: .null :: .null :: .null :: .null :: .null :: .null :: []) [.int (nI k1127)] (zm μ (J, 11, ν)) (u + 0) (us + 0)
  refine z_istore (by decide) rfl dL_law_1130 ?_
  refine z_iload rfl dL_law_1132 ?_
  refine z_iconst (nI 2) (by decide) dL_law_1134 ?_
  refine z_ishr dL_law_1135 ?_
  refine z_iconst (nI 3) (by decide) dL_law_1136 ?_
  obtain ⟨k1137, hk1137, hl1137⟩ := ct_L_low (E := E) (μ := μ) (J := J) (m := 11) (ν := ν) (q >>> ((nI 2) &&& 31)) (n := 3) (by omega) (by omega)
  refine z_callS (as := [.int (q >>> ((nI 2) &&& 31)), .int (nI 3)]) hl1137 ko_L_low kl_L_57 rfl rfl ⟨by decide, by decide, by show u + 0 + 0 ≤ 600086; omega, by show us + 0 + 0 ≤ 7301442; omega⟩ (Nat.le_of_ble_eq_true rfl) rfl dL_law_1137 ?_
  show zV true E kL_law 0 o 1140 (.ref (0) :: .ref (1) :: .ref (J 0) :: .ref (J 1) :: .ref (J 2) :: .ref (J 3) :: .ref (J 4) :: .ref (J 5) :: .ref (J 6) :: .ref (J 7) :: .ref (J 8) :: .int (nI at9) :: .ref (J 9) :: .ref (J 10) :: .int (nI nr) :: .int (nI nc) :: .int (nI ni) :: .int (nI tn) :: .int (z) :: .int (q) :: .int (nI kd) :: .int (nI c) :: .int (nI k1127) :: .null :: .null :: .null :: .null :: .null :: .null :: .null :: .null :: .null :: .null :: []) [.int (nI k1137)] (zm μ (J, 11, ν)) (u + 0 + 0) (us + 0 + 0)
  refine z_istore (by decide) rfl dL_law_1140 ?_
  refine z_aload rfl dL_law_1142 ?_
  refine z_iload rfl dL_law_1144 ?_
  refine m_xald 6 (c) 8 rfl (by decide) rfl (by omega) (by decide) dL_law_1146 ?_
  refine m_eqv (w := nI y) hy ?_
  refine z_iload rfl dL_law_1147 ?_
  refine z_iconst (nI 4) (by decide) dL_law_1149 ?_
  refine z_ishr dL_law_1150 ?_
  refine z_iconst (nI 3) (by decide) dL_law_1151 ?_
  obtain ⟨k1152, hk1152, hl1152⟩ := ct_L_low (E := E) (μ := μ) (J := J) (m := 11) (ν := ν) (q >>> ((nI 4) &&& 31)) (n := 3) (by omega) (by omega)
  refine z_callS (as := [.int (q >>> ((nI 4) &&& 31)), .int (nI 3)]) hl1152 ko_L_low kl_L_57 rfl rfl ⟨by decide, by decide, by show u + 0 + 0 + 0 ≤ 600086; omega, by show us + 0 + 0 + 0 ≤ 7301442; omega⟩ (Nat.le_of_ble_eq_true rfl) rfl dL_law_1152 ?_
  show zV true E kL_law 0 o 1155 (.ref (0) :: .ref (1) :: .ref (J 0) :: .ref (J 1) :: .ref (J 2) :: .ref (J 3) :: .ref (J 4) :: .ref (J 5) :: .ref (J 6) :: .ref (J 7) :: .ref (J 8) :: .int (nI at9) :: .ref (J 9) :: .ref (J 10) :: .int (nI nr) :: .int (nI nc) :: .int (nI ni) :: .int (nI tn) :: .int (z) :: .int (q) :: .int (nI kd) :: .int (nI c) :: .int (nI k1127) :: .int (nI k1137) :: .null :: .null :: .null :: .null :: .null :: .null :: .null :: .null :: .null :: []) [.int (nI k1152), .int (nI y)] (zm μ (J, 11, ν)) (u + 0 + 0 + 0) (us + 0 + 0 + 0)
  refine m_addN dL_law_1155 ?_
  refine z_istore (by decide) rfl dL_law_1156 ?_
  refine z_aload_n rfl rfl dL_law_1158 ?_
  refine z_iload rfl dL_law_1159 ?_
  refine z_iload rfl dL_law_1161 ?_
  refine z_iload rfl dL_law_1163 ?_
  refine z_iload rfl dL_law_1165 ?_
  refine z_callV (as := [.int (nI c), .int (nI k1127), .int (nI k1137), .int (nI (y + k1152))]) (by have h := ct_X7_copy (E := E) (μ := μ) (g := (J, 11, ν)) hnc hn12 (c := c) (k := k1127) (by omega) (by omega) (way := nI k1137) (y := nI (y + k1152)) (nm := nm) hnm (fun i hi => (hB.2 c (by omega) i hi).1); rw [if_neg (fun q => q ⟨nI_pos (by omega), fun w => by have := (nI_ltI (a := 2) (b := k1137) (by omega) (by omega)).mp w; omega, zyr_nI (by omega), by rw [y33, hy]; exact (nI_leI (a := y) (b := y + k1152) (by omega) (by omega)).mpr (by omega)⟩), if_neg (fun q => q (by omega))] at h; exact h) ko_X7_copy kl_L_77 rfl (zl_a rfl rfl) rfl rfl ⟨by decide, by decide, by show u + 0 + 0 + 0 + 4 ≤ 600086; omega, by show us + 0 + 0 + 0 + 24 ≤ 7301442; omega⟩ (Nat.le_of_ble_eq_true rfl) rfl dL_law_1167 ?_
  show zV true E kL_law 0 o 1170 (.ref (0) :: .ref (1) :: .ref (J 0) :: .ref (J 1) :: .ref (J 2) :: .ref (J 3) :: .ref (J 4) :: .ref (J 5) :: .ref (J 6) :: .ref (J 7) :: .ref (J 8) :: .int (nI at9) :: .ref (J 9) :: .ref (J 10) :: .int (nI nr) :: .int (nI nc) :: .int (nI ni) :: .int (nI tn) :: .int (z) :: .int (q) :: .int (nI kd) :: .int (nI c) :: .int (nI k1127) :: .int (nI k1137) :: .int (nI (y + k1152)) :: .null :: .null :: .null :: .null :: .null :: .null :: .null :: .null :: []) [.int (nI nc)] (zm (ccopy c nc k1127 nm (nI k1137) (nI (y + k1152)) μ) (J, 11, ν)) (u + 0 + 0 + 0 + 4) (us + 0 + 0 + 0 + 24)
  refine z_iload rfl dL_law_1170 ?_
  refine z_icmp_eq 1177 (by decide) dL_law_1172 (fun _ => ?_) (fun h => absurd rfl h)
  refine z_iconst (nI 0) (by decide) dL_law_1177 ?_
  refine z_istore (by decide) rfl dL_law_1178 ?_
  refine lp_B1 hE (ν := ν) (nm := nm) (c := c) (man := k1127) (way := k1137) hc h5 (by omega) (by omega) hn1 ?_ _ 0 rfl (by omega)
  refine z_iconst (nI 0) (by decide) dL_law_1342 ?_
  refine z_istore (by decide) rfl dL_law_1343 ?_
  refine lp_B2 hE (c := c) hc h5 hn4 ?_ _ 0 rfl (by omega)
  refine z_aload rfl dL_law_1384 ?_
  refine z_iload rfl dL_law_1386 ?_
  refine z_iload rfl dL_law_1388 ?_
  refine m_xast 6 (nc) 8 rfl (by decide) rfl (by omega) (by decide) dL_law_1390 ?_
  refine z_iinc (nI (nc + 1)) rfl (zincN _ 1) (by decide) rfl dL_law_1391 ?_
  refine z_goto 2482 (by decide) dL_law_1394 ?_
  refine z_fgt (.ref (0) :: .ref (1) :: .ref (J 0) :: .ref (J 1) :: .ref (J 2) :: .ref (J 3) :: .ref (J 4) :: .ref (J 5) :: .ref (J 6) :: .ref (J 7) :: .ref (J 8) :: .int (nI at9) :: .ref (J 9) :: .ref (J 10) :: .int (nI nr) :: .int (nI (nc + 1)) :: .int (nI ni) :: .int (nI tn) :: .null :: .null :: .null :: .null :: .null :: .null :: .null :: .null :: .null :: .null :: .null :: .null :: .null :: .null :: .null :: []) ⟨Or.inl rfl, ⟨Or.inl rfl, ⟨Or.inl rfl, ⟨Or.inl rfl, ⟨Or.inl rfl, ⟨Or.inl rfl, ⟨Or.inl rfl, ⟨Or.inl rfl, ⟨Or.inl rfl, ⟨Or.inl rfl, ⟨Or.inl rfl, ⟨Or.inl rfl, ⟨Or.inl rfl, ⟨Or.inl rfl, ⟨Or.inl rfl, ⟨Or.inl rfl, ⟨Or.inl rfl, ⟨Or.inl rfl, ⟨Or.inr rfl, ⟨Or.inr rfl, ⟨Or.inr rfl, ⟨Or.inr rfl, ⟨Or.inr rfl, ⟨Or.inr rfl, ⟨Or.inr rfl, ⟨Or.inl rfl, ⟨Or.inl rfl, ⟨Or.inl rfl, ⟨Or.inl rfl, ⟨Or.inl rfl, ⟨Or.inl rfl, ⟨Or.inl rfl, ⟨Or.inl rfl, trivial⟩⟩⟩⟩⟩⟩⟩⟩⟩⟩⟩⟩⟩⟩⟩⟩⟩⟩⟩⟩⟩⟩⟩⟩⟩⟩⟩⟩⟩⟩⟩⟩⟩ ?_
  exact kk _ _ _ _ _ _ (v_copy hI hc h5 hk1127 hn1 hn2 (by omega) (by omega)) (by show u + 0 + 0 + 0 + 4 ≤ _; omega) (by show us + 0 + 0 + 0 + 24 ≤ 64 * (u + 0 + 0 + 0 + 4); omega)
