/-! the class: paste (printed by wip/whole/gen_f4.py) -/
set_option maxRecDepth 100000 in
set_option maxHeartbeats 4000000 in
theorem lp_X7_paste {E : Nat × (Nat → Int32)} {g : zLw} {μ : zMu} {a b f t : Nat} (ha : a < 12) (hb : b < 12) (hf : f ≤ t) (ht : t < 24) {x y : Int32} : ∀ (n : Nat) (m : Nat) (ν : zMu), (t + 1 - f) - m = n → m ≤ (t + 1 - f) → ν = zit (cpa a b x y) f m (μ) → zV false E kX7_paste 116 (.inl (some (.int (zit (ckn (zit (cpa a b x y) f (t + 1 - f) μ) a) f (t + 1 - f) (nI 0)))), zm (zit (cpa a b x y) f (t + 1 - f) μ) g) 194 [.ref (1), .int (nI a), .int (nI b), .int (nI f), .int (nI t), .ref (33 + 7 * a), .ref (33 + 7 * b), .null, .int (x), .int (y), .int (nI (f + m))] [] (zm ν g) 4 24 := by
  intro n
  induction n using Nat.strongRecOn with
  | ind n ih =>
    intro m ν hm hle hs 
    refine z_iload rfl dX7_paste_194 ?_
    refine z_iload rfl dX7_paste_196 ?_
    refine z_icmp_gt 273 (by decide) dX7_paste_198 (z_br (zcn (n := t) (by omega) (f + m) (by omega)).2.1 (fun h1 => ?_)) (z_brn (zcn (n := t) (by omega) (f + m) (by omega)).2.1 (fun h2 => ?_))
    · have hmL : m = (t + 1 - f) := by omega
      have hz : zit (cpa a b x y) f ((t + 1 - f)) (μ) = ν := by rw [hs, hmL]
      refine z_aload rfl dX7_paste_273 ?_
      refine z_iload_n rfl rfl dX7_paste_275 ?_
      refine z_iload rfl dX7_paste_276 ?_
      refine z_callV (as := [.int (nI f), .int (nI t)]) (ct_X0_knownFrom (c := a) (f := f) (t := t) (by omega) (by omega) (by omega)) ko_X0_knownFrom kl_X7_207 rfl (zc0 (by omega)) rfl rfl ⟨by decide, by decide, by decide, by decide⟩ (Nat.le_of_ble_eq_true rfl) rfl dX7_paste_278 ?_
      exact z_iret (by rw [hz]) rfl (znarI _) (by decide) (by decide) dX7_paste_281
    · refine z_aload rfl dX7_paste_201 ?_
      refine m_getR (36 + 7 * a) kf_X7_143 (zc0 (by omega)) rfl (zl_rc (by omega)).2.2.1 (by omega) dX7_paste_203 ?_
      refine z_iload rfl dX7_paste_206 ?_
      refine z_aload rfl dX7_paste_208 ?_
      refine m_getR (36 + 7 * b) kf_X7_143 (zc0 (by omega)) rfl (zl_rc (by omega)).2.2.1 (by omega) dX7_paste_210 ?_
      refine z_iload rfl dX7_paste_213 ?_
      refine m_iald (f + m) (zc3 (by omega)) rfl (by omega) (by decide) dX7_paste_215 ?_
      refine m_iast (f + m) (zc3 (by omega)) rfl (by omega) (by decide) dX7_paste_216 ?_
      refine z_aload rfl dX7_paste_217 ?_
      refine z_iload rfl dX7_paste_219 ?_
      refine z_callV (as := [.int (nI (f + m))]) (ct_X0_knows (c := b) (p := f + m) (by omega) (by omega)) ko_X0_knows kl_X7_179 rfl (zc0 (by omega)) rfl rfl ⟨by decide, by decide, by decide, by decide⟩ (Nat.le_of_ble_eq_true rfl) rfl dX7_paste_221 ?_
      refine z_if_eq 260 (by decide) dX7_paste_224 (z_br zb_0 (fun h3 => ?_)) (z_br zb_n (fun h4 => ?_))
      · refine z_aload rfl dX7_paste_260 ?_
        refine z_iload rfl dX7_paste_262 ?_
        refine z_callV (as := [.int (nI (f + m))]) (ct_X0_forget (c := a) (p := f + m) (by omega) (by omega)) ko_X0_forget kl_X7_140 rfl (zc0 (by omega)) rfl rfl ⟨by decide, by decide, by decide, by decide⟩ (Nat.le_of_ble_eq_true rfl) rfl dX7_paste_264 ?_
        refine z_iinc (nI (f + m + 1)) rfl (zinc _) (by decide) rfl dX7_paste_267 ?_
        refine z_goto 194 (by decide) dX7_paste_270 ?_
        exact ih ((t + 1 - f) - (m + 1)) (by omega) (m + 1) (zput (zu ν (36 + 7 * a) (f + m) (ν (36 + 7 * b) (f + m))) a (f + m) 100000 100000 (-1)) rfl (by omega) (zst hs (by unfold cpa cpan; exact (if_neg h3).symm))
      · refine z_aload rfl dX7_paste_227 ?_
        refine z_iload rfl dX7_paste_229 ?_
        refine z_aload rfl dX7_paste_231 ?_
        refine m_getR (34 + 7 * b) kf_X7_182 (zc0 (by omega)) rfl (zl_rc (by omega)).1 (by omega) dX7_paste_233 ?_
        refine z_iload rfl dX7_paste_236 ?_
        refine m_iald (f + m) (zc1 (by omega)) rfl (by omega) (by decide) dX7_paste_238 ?_
        refine z_iload rfl dX7_paste_239 ?_
        refine z_iadd dX7_paste_241 ?_
        refine z_aload rfl dX7_paste_242 ?_
        refine m_getR (35 + 7 * b) kf_X7_187 (zc0 (by omega)) rfl (zl_rc (by omega)).2.1 (by omega) dX7_paste_244 ?_
        refine z_iload rfl dX7_paste_247 ?_
        refine m_iald (f + m) (zc2 (by omega)) rfl (by omega) (by decide) dX7_paste_249 ?_
        refine z_iload rfl dX7_paste_250 ?_
        refine z_iadd dX7_paste_252 ?_
        refine z_iload_n rfl rfl dX7_paste_253 ?_
        refine z_callV (as := [.int (nI (f + m)), .int (((zu ν (36 + 7 * a) (f + m) (ν (36 + 7 * b) (f + m))) (34 + 7 * b) (f + m)) + x), .int (((zu ν (36 + 7 * a) (f + m) (ν (36 + 7 * b) (f + m))) (35 + 7 * b) (f + m)) + y), .int (nI b)]) (ct_X0_put (c := a) (p := f + m) (by omega) (by omega) (((zu ν (36 + 7 * a) (f + m) (ν (36 + 7 * b) (f + m))) (34 + 7 * b) (f + m)) + x) (((zu ν (36 + 7 * a) (f + m) (ν (36 + 7 * b) (f + m))) (35 + 7 * b) (f + m)) + y) (nI b)) ko_X0_put kl_X7_147 rfl (zc0 (by omega)) rfl rfl ⟨by decide, by decide, by decide, by decide⟩ (Nat.le_of_ble_eq_true rfl) rfl dX7_paste_254 ?_
        refine z_goto 267 (by decide) dX7_paste_257 ?_
        refine z_iinc (nI (f + m + 1)) rfl (zinc _) (by decide) rfl dX7_paste_267 ?_
        refine z_goto 194 (by decide) dX7_paste_270 ?_
        exact ih ((t + 1 - f) - (m + 1)) (by omega) (m + 1) (zput (zu ν (36 + 7 * a) (f + m) (ν (36 + 7 * b) (f + m))) a (f + m) (((zu ν (36 + 7 * a) (f + m) (ν (36 + 7 * b) (f + m))) (34 + 7 * b) (f + m)) + x) (((zu ν (36 + 7 * a) (f + m) (ν (36 + 7 * b) (f + m))) (35 + 7 * b) (f + m)) + y) (nI b)) rfl (by omega) (zst hs (by unfold cpa cpan; exact (if_pos h4).symm))
set_option maxRecDepth 100000 in
set_option maxHeartbeats 4000000 in
theorem rs_X7_paste {E : Nat × (Nat → Int32)} {μ : Nat → Nat → Int32} {g : zLw} {a b f t : Nat} (ha : a < 12) (hb : b < 12) (hf : f ≤ t) (ht : t < 24) {x y : Int32} : zV false E kX7_paste 116 (if zB (∀ i, i < t + 1 - f → cmvP μ b x y (f + i)) = 0 then (.inr xS, zm μ g) else (.inl (some (.int (zit (ckn (zit (cpa a b x y) f (t + 1 - f) μ) a) f (t + 1 - f) (nI 0)))), zm (zit (cpa a b x y) f (t + 1 - f) μ) g) : zO) 166 [.ref (1), .int (nI a), .int (nI b), .int (nI f), .int (nI t), .ref (33 + 7 * a), .ref (33 + 7 * b), .null, .int (x), .int (y), .null] [] (zm μ g) 4 24 := by
  refine z_aload rfl dX7_paste_166 ?_
  refine z_iload_n rfl rfl dX7_paste_168 ?_
  refine z_iload rfl dX7_paste_169 ?_
  refine z_iload rfl dX7_paste_171 ?_
  refine z_iload rfl dX7_paste_173 ?_
  refine z_callV (as := [.int (nI f), .int (nI t), .int (x), .int (y)]) (ct_X0_fitsMoved (c := b) (f := f) (t := t) (by omega) (by omega) (by omega) (x := x) (y := y)) ko_X0_fitsMoved kl_X7_202 rfl (zc0 (by omega)) rfl rfl ⟨by decide, by decide, by decide, by decide⟩ (Nat.le_of_ble_eq_true rfl) rfl dX7_paste_175 ?_
  refine z_if_ne 191 (by decide) dX7_paste_178 (z_br zB_n (fun h1 => ?_)) (z_br zB_0 (fun h2 => ?_))
  · refine z_iload_n rfl rfl dX7_paste_191 ?_
    refine z_istore (by decide) rfl dX7_paste_192 ?_
    refine z_oeq ((if_neg (zB_n.mpr (by assumption))).trans rfl) ?_
    exact lp_X7_paste (a := a) (b := b) (f := f) (t := t) (by omega) (by omega) (by omega) (by omega) _ 0 _ rfl (Nat.zero_le _) rfl
  · exact z_throw (text := "a place would be too far away") ((if_pos (zB_0.mpr (by assumption))).trans (rfl)) kt_87 (by decide +kernel) rfl (by decide) (Nat.le_of_ble_eq_true rfl) (by decide) (by decide) dX7_paste_181 dX7_paste_184 dX7_paste_185 dX7_paste_187 dX7_paste_190
set_option maxRecDepth 100000 in
set_option maxHeartbeats 4000000 in
theorem ct_X7_paste {E : Nat × (Nat → Int32)} {μ : Nat → Nat → Int32} {g : zLw} {nc : Nat} (hnc : μ 1 7 = nI nc) (hn12 : nc ≤ 12) {a b f t : Nat} (ha : a < nc) (hb : b < nc) (hf : f < 24) (ht : t < 24) : zCt E kX7_paste [.ref (1), .int (nI a), .int (nI b), .int (nI f), .int (nI t)] (zm μ g) (if ¬ (¬ a = b ∧ f ≤ t) then (.inr xA, zm μ g) else if ¬ μ (33 + 7 * b) 0 ≤ μ (33 + 7 * a) 0 then (.inr xS, zm μ g) else if ¬ zB (zlb μ nc (nI a) b f (t + 1 - f)) = 0 then (.inr xS, zm μ g) else if zB (∀ i, i < t + 1 - f → cmvP μ b (cmv μ a b f 34) (cmv μ a b f 35) (f + i)) = 0 then (.inr xS, zm μ g) else (.inl (some (.int (zit (ckn (zit (cpa a b (cmv μ a b f 34) (cmv μ a b f 35)) f (t + 1 - f) μ) a) f (t + 1 - f) (nI 0)))), zm (zit (cpa a b (cmv μ a b f 34) (cmv μ a b f 35)) f (t + 1 - f) μ) g) : zO) := by
  refine zCt_of ko_X7_paste (Nat.le_of_ble_eq_true rfl) (zas_r (zas_i (zas_i (zas_i (zas_i zas_0))))) (zMM (zifn rfl (zifn rfl (zifn rfl (zifn rfl rfl))))) (Nat.le_of_ble_eq_true rfl) ?_
  show zV false E kX7_paste 116 _ 0 [.ref (1), .int (nI a), .int (nI b), .int (nI f), .int (nI t), .null, .null, .null, .null, .null, .null] [] (zm μ g) 0 0
  refine z_aload_n rfl rfl dX7_paste_0 ?_
  refine z_iload_n rfl rfl dX7_paste_1 ?_
  refine z_callV (as := [.int (nI a)]) (ct_X7_chartOf hnc hn12 (c := a) (by omega)) ko_X7_chartOf kl_X7_169 rfl (zl_a rfl rfl) rfl rfl ⟨by decide, by decide, by decide, by decide⟩ (Nat.le_of_ble_eq_true rfl) rfl dX7_paste_2 ?_
  refine z_astore (by decide) rfl dX7_paste_5 ?_
  refine z_aload_n rfl rfl dX7_paste_7 ?_
  refine z_iload_n rfl rfl dX7_paste_8 ?_
  refine z_callV (as := [.int (nI b)]) (ct_X7_chartOf hnc hn12 (c := b) (by omega)) ko_X7_chartOf kl_X7_169 rfl (zl_a rfl rfl) rfl rfl ⟨by decide, by decide, by decide, by decide⟩ (Nat.le_of_ble_eq_true rfl) rfl dX7_paste_9 ?_
  refine z_astore (by decide) rfl dX7_paste_12 ?_
  refine z_iload_n rfl rfl dX7_paste_14 ?_
  refine z_callS (as := [.int (nI f)]) (ct_X7_needPoint (j := f) (by omega)) ko_X7_needPoint kl_X7_62 rfl rfl ⟨by decide, by decide, by decide, by decide⟩ (Nat.le_of_ble_eq_true rfl) rfl dX7_paste_15 ?_
  refine z_iload rfl dX7_paste_18 ?_
  refine z_callS (as := [.int (nI t)]) (ct_X7_needPoint (j := t) (by omega)) ko_X7_needPoint kl_X7_62 rfl rfl ⟨by decide, by decide, by decide, by decide⟩ (Nat.le_of_ble_eq_true rfl) rfl dX7_paste_20 ?_
  refine z_iload_n rfl rfl dX7_paste_23 ?_
  refine z_iload_n rfl rfl dX7_paste_24 ?_
  refine z_icmp_eq 34 (by decide) dX7_paste_25 (z_br (zcn (n := a) (by omega) (b) (by omega)).1 (fun h1 => ?_)) (z_brn (zcn (n := a) (by omega) (b) (by omega)).1 (fun h2 => ?_))
  · exact z_throw (text := "the same chart, or the stretch ends ahead of its start") ((if_pos (fun q => by first | exact q.1 (by omega) | exact absurd q.2 (by omega))).trans rfl) kt_77 (by decide +kernel) rfl (by decide) (Nat.le_of_ble_eq_true rfl) (by decide) (by decide) dX7_paste_34 dX7_paste_37 dX7_paste_38 dX7_paste_40 dX7_paste_43
  · refine z_iload rfl dX7_paste_28 ?_
    refine z_iload_n rfl rfl dX7_paste_30 ?_
    refine z_icmp_ge 44 (by decide) dX7_paste_31 (z_br (zcn (n := f) (by omega) (t) (by omega)).2.2 (fun h3 => ?_)) (z_brn (zcn (n := f) (by omega) (t) (by omega)).2.2 (fun h4 => ?_))
    · refine z_aload rfl dX7_paste_44 ?_
      refine m_getI kf_X7_138 (zc0 (by omega)) rfl dX7_paste_46 ?_
      refine z_aload rfl dX7_paste_49 ?_
      refine m_getI kf_X7_138 (zc0 (by omega)) rfl dX7_paste_51 ?_
      refine z_icmp_le 67 (by decide) dX7_paste_54 (fun h5 => ?_) (fun h6 => ?_)
      · refine z_aload_n rfl rfl dX7_paste_67 ?_
        refine z_iload_n rfl rfl dX7_paste_68 ?_
        refine z_iload_n rfl rfl dX7_paste_69 ?_
        refine z_iload_n rfl rfl dX7_paste_70 ?_
        refine z_iload rfl dX7_paste_71 ?_
        refine z_callV (as := [.int (nI a), .int (nI b), .int (nI f), .int (nI t)]) (ct_X7_leadsBack hnc hn12 (c := a) (d := b) (f := f) (t := t) (by omega) (by omega)) ko_X7_leadsBack kl_X7_196 rfl (zl_a rfl rfl) rfl rfl ⟨by decide, by decide, by decide, by decide⟩ (Nat.le_of_ble_eq_true rfl) rfl dX7_paste_73 ?_
        refine z_if_eq 89 (by decide) dX7_paste_76 (z_br zB_0 (fun h7 => ?_)) (z_br zB_n (fun h8 => ?_))
        · refine z_aload rfl dX7_paste_89 ?_
          refine z_iload_n rfl rfl dX7_paste_91 ?_
          refine z_callV (as := [.int (nI f)]) (ct_X0_knows (c := a) (p := f) (by omega) (by omega)) ko_X0_knows kl_X7_179 rfl (zc0 (by omega)) rfl rfl ⟨by decide, by decide, by decide, by decide⟩ (Nat.le_of_ble_eq_true rfl) rfl dX7_paste_92 ?_
          refine z_if_eq 111 (by decide) dX7_paste_95 (z_br zb_0 (fun h9 => ?_)) (z_br zb_n (fun h10 => ?_))
          · refine z_iconst (nI 0) (by decide) dX7_paste_111 ?_
            refine z_istore (by decide) rfl dX7_paste_112 ?_
            refine z_iload rfl dX7_paste_114 ?_
            refine z_if_eq 137 (by decide) dX7_paste_116 (fun _ => ?_) (fun h => absurd h (by decide))
            refine z_iconst (nI 0) (by decide) dX7_paste_137 ?_
            refine z_istore (by decide) rfl dX7_paste_138 ?_
            refine z_iload rfl dX7_paste_140 ?_
            refine z_if_eq 163 (by decide) dX7_paste_142 (fun _ => ?_) (fun h => absurd h (by decide))
            refine z_iconst (nI 0) (by decide) dX7_paste_163 ?_
            refine z_istore (by decide) rfl dX7_paste_164 ?_
            refine z_fgt [.ref (1), .int (nI a), .int (nI b), .int (nI f), .int (nI t), .ref (33 + 7 * a), .ref (33 + 7 * b), .null, .int (nI 0), .int (nI 0), .null] ⟨Or.inl rfl, ⟨Or.inl rfl, ⟨Or.inl rfl, ⟨Or.inl rfl, ⟨Or.inl rfl, ⟨Or.inl rfl, ⟨Or.inl rfl, ⟨Or.inr rfl, ⟨Or.inl rfl, ⟨Or.inl rfl, ⟨Or.inl rfl, trivial⟩⟩⟩⟩⟩⟩⟩⟩⟩⟩⟩ ?_
            have hx : cmv μ a b f 34 = nI 0 := if_neg (fun q => h9 q.1)
            have hy : cmv μ a b f 35 = nI 0 := if_neg (fun q => h9 q.1)
            rw [hx, hy]
            refine z_oeq ((if_neg (fun q => q ⟨by assumption, by omega⟩)).trans ((if_neg (fun q => q (by assumption))).trans ((if_neg (fun q => q (zB_0.mpr (by assumption)))).trans rfl))) ?_
            exact rs_X7_paste (a := a) (b := b) (f := f) (t := t) (by omega) (by omega) (by omega) (by omega)
          · refine z_aload rfl dX7_paste_98 ?_
            refine z_iload_n rfl rfl dX7_paste_100 ?_
            refine z_callV (as := [.int (nI f)]) (ct_X0_knows (c := b) (p := f) (by omega) (by omega)) ko_X0_knows kl_X7_179 rfl (zc0 (by omega)) rfl rfl ⟨by decide, by decide, by decide, by decide⟩ (Nat.le_of_ble_eq_true rfl) rfl dX7_paste_101 ?_
            refine z_if_eq 111 (by decide) dX7_paste_104 (z_br zb_0 (fun h11 => ?_)) (z_br zb_n (fun h12 => ?_))
            · refine z_iconst (nI 0) (by decide) dX7_paste_111 ?_
              refine z_istore (by decide) rfl dX7_paste_112 ?_
              refine z_iload rfl dX7_paste_114 ?_
              refine z_if_eq 137 (by decide) dX7_paste_116 (fun _ => ?_) (fun h => absurd h (by decide))
              refine z_iconst (nI 0) (by decide) dX7_paste_137 ?_
              refine z_istore (by decide) rfl dX7_paste_138 ?_
              refine z_iload rfl dX7_paste_140 ?_
              refine z_if_eq 163 (by decide) dX7_paste_142 (fun _ => ?_) (fun h => absurd h (by decide))
              refine z_iconst (nI 0) (by decide) dX7_paste_163 ?_
              refine z_istore (by decide) rfl dX7_paste_164 ?_
              refine z_fgt [.ref (1), .int (nI a), .int (nI b), .int (nI f), .int (nI t), .ref (33 + 7 * a), .ref (33 + 7 * b), .null, .int (nI 0), .int (nI 0), .null] ⟨Or.inl rfl, ⟨Or.inl rfl, ⟨Or.inl rfl, ⟨Or.inl rfl, ⟨Or.inl rfl, ⟨Or.inl rfl, ⟨Or.inl rfl, ⟨Or.inr rfl, ⟨Or.inl rfl, ⟨Or.inl rfl, ⟨Or.inl rfl, trivial⟩⟩⟩⟩⟩⟩⟩⟩⟩⟩⟩ ?_
              have hx : cmv μ a b f 34 = nI 0 := if_neg (fun q => h11 q.2)
              have hy : cmv μ a b f 35 = nI 0 := if_neg (fun q => h11 q.2)
              rw [hx, hy]
              refine z_oeq ((if_neg (fun q => q ⟨by assumption, by omega⟩)).trans ((if_neg (fun q => q (by assumption))).trans ((if_neg (fun q => q (zB_0.mpr (by assumption)))).trans rfl))) ?_
              exact rs_X7_paste (a := a) (b := b) (f := f) (t := t) (by omega) (by omega) (by omega) (by omega)
            · refine z_iconst (nI 1) (by decide) dX7_paste_107 ?_
              refine z_goto 112 (by decide) dX7_paste_108 ?_
              refine z_istore (by decide) rfl dX7_paste_112 ?_
              refine z_iload rfl dX7_paste_114 ?_
              refine z_if_eq 137 (by decide) dX7_paste_116 (fun h => absurd h (by decide)) (fun _ => ?_)
              refine z_aload rfl dX7_paste_119 ?_
              refine m_getR (34 + 7 * a) kf_X7_182 (zc0 (by omega)) rfl (zl_rc (by omega)).1 (by omega) dX7_paste_121 ?_
              refine z_iload_n rfl rfl dX7_paste_124 ?_
              refine m_iald (f) (zc1 (by omega)) rfl (by omega) (by decide) dX7_paste_125 ?_
              refine z_aload rfl dX7_paste_126 ?_
              refine m_getR (34 + 7 * b) kf_X7_182 (zc0 (by omega)) rfl (zl_rc (by omega)).1 (by omega) dX7_paste_128 ?_
              refine z_iload_n rfl rfl dX7_paste_131 ?_
              refine m_iald (f) (zc1 (by omega)) rfl (by omega) (by decide) dX7_paste_132 ?_
              refine z_isub dX7_paste_133 ?_
              refine z_goto 138 (by decide) dX7_paste_134 ?_
              refine z_istore (by decide) rfl dX7_paste_138 ?_
              refine z_iload rfl dX7_paste_140 ?_
              refine z_if_eq 163 (by decide) dX7_paste_142 (fun h => absurd h (by decide)) (fun _ => ?_)
              refine z_aload rfl dX7_paste_145 ?_
              refine m_getR (35 + 7 * a) kf_X7_187 (zc0 (by omega)) rfl (zl_rc (by omega)).2.1 (by omega) dX7_paste_147 ?_
              refine z_iload_n rfl rfl dX7_paste_150 ?_
              refine m_iald (f) (zc2 (by omega)) rfl (by omega) (by decide) dX7_paste_151 ?_
              refine z_aload rfl dX7_paste_152 ?_
              refine m_getR (35 + 7 * b) kf_X7_187 (zc0 (by omega)) rfl (zl_rc (by omega)).2.1 (by omega) dX7_paste_154 ?_
              refine z_iload_n rfl rfl dX7_paste_157 ?_
              refine m_iald (f) (zc2 (by omega)) rfl (by omega) (by decide) dX7_paste_158 ?_
              refine z_isub dX7_paste_159 ?_
              refine z_goto 164 (by decide) dX7_paste_160 ?_
              refine z_istore (by decide) rfl dX7_paste_164 ?_
              refine z_fgt [.ref (1), .int (nI a), .int (nI b), .int (nI f), .int (nI t), .ref (33 + 7 * a), .ref (33 + 7 * b), .null, .int ((μ (34 + 7 * a) (f)) - (μ (34 + 7 * b) (f))), .int ((μ (35 + 7 * a) (f)) - (μ (35 + 7 * b) (f))), .null] ⟨Or.inl rfl, ⟨Or.inl rfl, ⟨Or.inl rfl, ⟨Or.inl rfl, ⟨Or.inl rfl, ⟨Or.inl rfl, ⟨Or.inl rfl, ⟨Or.inr rfl, ⟨Or.inl rfl, ⟨Or.inl rfl, ⟨Or.inl rfl, trivial⟩⟩⟩⟩⟩⟩⟩⟩⟩⟩⟩ ?_
              have hx : cmv μ a b f 34 = (μ (34 + 7 * a) (f)) - (μ (34 + 7 * b) (f)) := if_pos ⟨h10, h12⟩
              have hy : cmv μ a b f 35 = (μ (35 + 7 * a) (f)) - (μ (35 + 7 * b) (f)) := if_pos ⟨h10, h12⟩
              rw [hx, hy]
              refine z_oeq ((if_neg (fun q => q ⟨by assumption, by omega⟩)).trans ((if_neg (fun q => q (by assumption))).trans ((if_neg (fun q => q (zB_0.mpr (by assumption)))).trans rfl))) ?_
              exact rs_X7_paste (a := a) (b := b) (f := f) (t := t) (by omega) (by omega) (by omega) (by omega)
        · exact z_throw (text := "the source has a place of the stretch from the chart itself") ((if_neg (fun q => q ⟨by assumption, by omega⟩)).trans ((if_neg (fun q => q (by assumption))).trans ((if_pos (zB_n.mpr (by assumption))).trans rfl))) kt_87 (by decide +kernel) rfl (by decide) (Nat.le_of_ble_eq_true rfl) (by decide) (by decide) dX7_paste_79 dX7_paste_82 dX7_paste_83 dX7_paste_85 dX7_paste_88
      · exact z_throw (text := "the source is younger") ((if_neg (fun q => q ⟨by assumption, by omega⟩)).trans ((if_pos (by assumption)).trans rfl)) kt_87 (by decide +kernel) rfl (by decide) (Nat.le_of_ble_eq_true rfl) (by decide) (by decide) dX7_paste_57 dX7_paste_60 dX7_paste_61 dX7_paste_63 dX7_paste_66
    · exact z_throw (text := "the same chart, or the stretch ends ahead of its start") ((if_pos (fun q => by first | exact q.1 (by omega) | exact absurd q.2 (by omega))).trans rfl) kt_77 (by decide +kernel) rfl (by decide) (Nat.le_of_ble_eq_true rfl) (by decide) (by decide) dX7_paste_34 dX7_paste_37 dX7_paste_38 dX7_paste_40 dX7_paste_43
