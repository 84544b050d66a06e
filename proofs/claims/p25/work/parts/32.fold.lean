/-! loops as folds -/
def zit {α : Type} (f : Nat → α → α) (a : Nat) : Nat → α → α
  | 0, s => s
  | n + 1, s => f (a + n) (zit f a n s)
theorem zit_s {α : Type} (f : Nat → α → α) (a n : Nat) (s : α) : zit f a (n + 1) s = f (a + n) (zit f a n s) := rfl
abbrev zMu : Type := Nat → Nat → Int32
/-- what a body does on one road -/
theorem zst {α : Type} {f : Nat → α → α} {a m : Nat} {s s0 s' : α} (hs : s = zit f a m s0) (h : s' = f (a + m) s) : s' = zit f a (m + 1) s0 := by rw [zit_s, ← hs]; exact h
/-- a source, followed from an int -/
def zsrc (μ : zMu) (nc p : Nat) (l : Int32) : Int32 := if ¬ l < 0 ∧ l < nI nc then μ (37 + 7 * l.toNatClampNeg) p else -1
theorem zsrc_n {μ : zMu} {nc p j : Nat} (h : j < nc) (hn : nc ≤ 12) : zsrc μ nc p (nI j) = μ (37 + 7 * j) p := by
  rw [zsrc, if_pos ⟨nI_pos (by omega), nI_lt h (by omega)⟩, nI_clamp (by omega)]
theorem zsrc_m {μ : zMu} {nc p : Nat} : zsrc μ nc p (-1) = -1 := by
  rw [zsrc, if_neg (fun h => h.1 (by decide))]
/-- a place drawn by a copyist -/
def zdraw (x way h : Int32) : Int32 := if way = 1 then x / nI 5 * nI 5 else if way = 2 then x + h else x
abbrev zgive (μ : zMu) (p : Nat) (x y : Int32) : zMu := zu (zu (zu μ 16 p (μ 16 p + x)) 17 p (μ 17 p + y)) 18 p (μ 18 p + nI 1)
abbrev zerr (μ : zMu) (c p : Nat) (inX : Prop) [Decidable inX] : Int32 := if inX then μ (34 + 7 * c) p - μ 3 p else μ (35 + 7 * c) p - μ 4 p
abbrev ztn (μ : zMu) (c p : Nat) : Prop := μ (36 + 7 * c) p = μ 5 p
abbrev zshe (μ : zMu) (c d p : Nat) : Prop := zkn μ c p ∧ zkn μ d p ∧ μ (34 + 7 * c) p = μ (34 + 7 * d) p ∧ μ (35 + 7 * c) p = μ (35 + 7 * d) p ∧ (¬ μ (34 + 7 * c) p - μ 3 p = 0 ∨ ¬ μ (35 + 7 * c) p - μ 4 p = 0)
theorem znab {x y z : Int32} (h : ¬ x = y) : ¬ (x = y ∧ z = z) := fun q => h q.1
theorem zu_o {μ : zMu} {k j a b : Nat} {x : Int32} (h : a ≠ k) : zu μ k j x a b = μ a b := by simp [zu, h]
theorem zu_o2 {μ : zMu} {k j a b : Nat} {x : Int32} (h : b ≠ j) : zu μ k j x a b = μ a b := by simp [zu, h]
theorem zu_s {μ : zMu} {k j : Nat} {x : Int32} : zu μ k j x k j = x := by simp [zu]
theorem zst0 {α : Type} {f : Nat → α → α} {m : Nat} {s s0 s' : α} (hs : s = zit f 0 m s0) (h : s' = f m s) : s' = zit f 0 (m + 1) s0 := by rw [zit_s, ← hs, Nat.zero_add]; exact h
theorem zit_stay {α : Type} {f : Nat → α → α} {a m : Nat} {s s0 : α} (hs : s = zit f a m s0) (h : ∀ i, f i s = s) : ∀ k, zit f a (m + k) s0 = s
  | 0 => hs.symm
  | k + 1 => by rw [← Nat.add_assoc, zit_s, zit_stay hs h k, h]
noncomputable abbrev zB (p : Prop) : Int32 := @zb p (Classical.propDecidable p)
/-- locals of which less is known -/
def zfgt : List Value → List Value → Prop
  | [], [] => True
  | a :: l, b :: m => (a = b ∨ a = .null) ∧ zfgt l m
  | _, _ => False
theorem zfgt_at : ∀ {l m : List Value}, zfgt l m → l.length = m.length ∧ (∀ (i : Nat) (v : Value), l[i]? = some v → v ≠ Value.null → m[i]? = some v)
  | [], [], _ => ⟨rfl, fun i v h _ => by simp at h⟩
  | a :: l, b :: m, h => by
    obtain ⟨h1, h2⟩ := zfgt_at h.2
    refine ⟨by simp [h1], fun i v hi hv => ?_⟩
    cases i with
    | zero =>
      simp only [List.getElem?_cons_zero, Option.some.injEq] at hi ⊢
      rcases h.1 with e | e
      · rw [← e, hi]
      · exact absurd (hi.symm.trans e) hv
    | succ i =>
      simp only [List.getElem?_cons_succ] at hi ⊢
      exact h2 i v hi hv
  | [], _ :: _, h => h.elim
  | _ :: _, [], h => h.elim
theorem zfgt_mem : ∀ {l m : List Value}, zfgt l m → (∀ v ∈ m, v.category = 1) → ∀ v ∈ l, v.category = 1
  | [], _, _, _ => fun v h => by cases h
  | a :: l, b :: m, h, hm => fun v hv => by
    rcases List.mem_cons.mp hv with rfl | hv
    · rcases h.1 with e | e
      · rw [e]; exact hm b List.mem_cons_self
      · rw [e]; rfl
    · exact zfgt_mem h.2 (fun w hw => hm w (List.mem_cons_of_mem _ hw)) v hv
  | _ :: _, [], h, _ => h.elim
theorem z_fgt {F : Bool} {E : Nat × (Nat → Int32)} {K : zK} {n0 : Nat} {o : zO} {pc : Nat} {ls sk : List Value} {M : zM} {u us : Nat} (ls1 : List Value) (h : zfgt ls1 ls) (kk : zV F E K n0 o pc ls1 sk M u us) : zV F E K n0 o pc ls sk M u us := by
  intro p l e R s m args below meth c D ca bs b H locs lr hC hR hS hA hn0 hL
  obtain ⟨h1, h2, h3, h4, h5⟩ := hL
  obtain ⟨g1, g2⟩ := zfgt_at h
  exact kk p l e R s m args below meth c D ca bs b H locs lr hC hR hS hA hn0 ⟨h1, h2, g1.trans h3, zfgt_mem h h4, fun i v hi hv => h5 i v (g2 i v hi hv) hv⟩
/-! bodies of the class's loops -/
def cbeg (i : Nat) (ν : zMu) : zMu := zu (zu (zu ν 16 i (nI 0)) 17 i (nI 0)) 18 i (nI 0)
def cset (c i : Nat) (s : Int32 × zMu) : Int32 × zMu := if s.2 18 i ≤ 0 then s else (nI 1, zput s.2 c i (s.2 16 i / s.2 18 i) (s.2 17 i / s.2 18 i) (-1))
def cfr1 (c d i : Nat) (ν : zMu) : zMu := zu ν (38 + 7 * c) i (ν (38 + 7 * d) i)
def cfr2 (c d i : Nat) (ν : zMu) : zMu := zu ν (39 + 7 * c) i (ν (39 + 7 * d) i)
def ckn (μ : zMu) (c i : Nat) (s : Int32) : Int32 := if zkn μ c i then s + 1 else s
def cisl (μ : zMu) (c d i : Nat) (s : Int32) : Int32 := if ¬ μ (39 + 7 * c) i = 0 ∧ ¬ μ (39 + 7 * d) i = 0 then s + 1 else s
abbrev cmvP (μ : zMu) (c : Nat) (x y : Int32) (i : Nat) : Prop := zkn μ c i → zin (μ (34 + 7 * c) i + x) (nI 9999) ∧ zin (μ (35 + 7 * c) i + y) (nI 9999)
abbrev cshP (μ : zMu) (c : Nat) (h : Int32) (i : Nat) : Prop := zkn μ c i → zin (μ (34 + 7 * c) i * h / nI 100) (nI 9999) ∧ zin (μ (35 + 7 * c) i * h / nI 100) (nI 9999)
def cshr (c : Nat) (h : Int32) (i : Nat) (ν : zMu) : zMu := if zkn ν c i then zu (zu ν (34 + 7 * c) i (ν (34 + 7 * c) i * h / nI 100)) (35 + 7 * c) i ((zu ν (34 + 7 * c) i (ν (34 + 7 * c) i * h / nI 100)) (35 + 7 * c) i * h / nI 100) else ν
def cgat (rf rt : Nat → Nat) (c i : Nat) (ν : zMu) : zMu :=
  if zkn ν c (rf i) ∧ ¬ zkn ν c (rt i) then zgive ν (rt i) (ν (34 + 7 * c) (rf i) + ν 13 i) (ν (35 + 7 * c) (rf i) + ν 14 i)
  else if zkn ν c (rt i) ∧ ¬ zkn ν c (rf i) then zgive ν (rf i) (ν (34 + 7 * c) (rt i) - ν 13 i) (ν (35 + 7 * c) (rt i) - ν 14 i) else ν
def cgather (rf rt : Nat → Nat) (c n : Nat) (μ : zMu) : zMu := zit (cgat rf rt c) 0 n (zit cbeg 0 24 μ)
def clay (rf rt : Nat → Nat) (c n : Nat) (i : Nat) (s : Int32 × zMu) : Int32 × zMu := if s.1 = 0 then s else zit (cset c) 0 24 (nI 0, cgather rf rt c n s.2)
def zld (μ : zMu) (nc p : Nat) (ch : Int32) : Nat → Int32 → Prop
  | 0, _ => False
  | k + 1, l => ¬ l = -1 ∧ (zsrc μ nc p l = ch ∨ zld μ nc p ch k (zsrc μ nc p l))
def cfal (μ : zMu) (c i : Nat) (s : Int32) : Int32 := if ztn μ c i then s else s + 1
abbrev zer (μ : zMu) (c a t i : Nat) : Int32 := μ (a + 7 * c) i - μ t i
def cshf (μ : zMu) (c a t i : Nat) (s : Int32 × Int32) : Int32 × Int32 := if zkn μ c i then (s.1 + 1, s.2 + zer μ c a t i) else s
def zquo (s : Int32 × Int32) : Int32 := if s.1 ≤ 0 then nI 0 else s.2 / s.1
def cshift (μ : zMu) (c b a t : Nat) : Int32 := zquo (zit (cshf μ c a t) (b * 8) 8 (nI 0, nI 0))
abbrev zab (x : Int32) : Int32 := if 0 ≤ x then x else 0 - x
def cres (μ : zMu) (c : Nat) (x y : Int32) (i : Nat) (s : Int32) : Int32 := if zkn μ c i then (s + zab (zer μ c 34 3 i - x)) + zab (zer μ c 35 4 i - y) else s
def csha (μ : zMu) (c d i : Nat) (s : Int32) : Int32 := if μ (36 + 7 * c) i = μ (36 + 7 * d) i ∧ ¬ ztn μ c i then (if zshe μ c d i then s + 1 else s) + 1 else if zshe μ c d i then s + 1 else s
def cshared (μ : zMu) (c d b : Nat) : Int32 := zit (csha μ c d) (b * 8) 8 (zit (cisl μ c d) 0 20 (nI 0))
def cwith (μ : zMu) (k i : Nat) (s : Int32) : Int32 := if μ (39 + 7 * i) k = 0 then s else s + 1
def chigh (μ : zMu) (k i : Nat) (s : Int32) : Int32 := if μ (39 + 7 * i) k = 0 then s else nI i
theorem zbn {y : Int32} (h : y = nI 0 ∨ y = nI 1) : narrow .boolean (.int y) = .int y := by rcases h with rfl | rfl <;> rfl
theorem zld_z {μ : zMu} {nc p : Nat} {ch : Int32} {k : Nat} : ¬ zld μ nc p ch k (-1) := by
  cases k with
  | zero => exact id
  | succ k => exact fun h => h.1 rfl
/-- the source leads back in one of the points f .. -/
def zlb (μ : zMu) (nc : Nat) (ch : Int32) (d f n : Nat) : Prop := ∃ i, i < n ∧ zld μ nc (f + i) ch 12 (nI d)
theorem zleafBT {p : Prop} {M : zM} (h : p) : ((.inl (some (.int (zB p))), M) : zO) = (.inl (some (.int (nI 1))), M) := @zleafT p (Classical.propDecidable p) M h
theorem zleafBF {p : Prop} {M : zM} (h : ¬ p) : ((.inl (some (.int (zB p))), M) : zO) = (.inl (some (.int (nI 0))), M) := @zleafF p (Classical.propDecidable p) M h
theorem zB_0 {p : Prop} : zB p = 0 ↔ ¬ p := @zb_0 p (Classical.propDecidable p)
theorem zB_n {p : Prop} : ¬ zB p = 0 ↔ p := @zb_n p (Classical.propDecidable p)
theorem zB_nar (p : Prop) : narrow .boolean (.int (zB p)) = .int (zB p) := @zb_nar p (Classical.propDecidable p)
theorem zit_keep {f : Nat → zMu → zMu} {a k : Nat} (h : ∀ i ν, f i ν k = ν k) (μ : zMu) : ∀ n, zit f a n μ k = μ k
  | 0 => rfl
  | n + 1 => by rw [zit_s, h, zit_keep h μ n]
theorem zu_r {μ : zMu} {k j a : Nat} {x : Int32} (h : a ≠ k) : zu μ k j x a = μ a := zu_ne μ j x h
theorem cbeg_o {k : Nat} (h : k ≠ 16 ∧ k ≠ 17 ∧ k ≠ 18) (i : Nat) (ν : zMu) : cbeg i ν k = ν k := by
  unfold cbeg
  rw [zu_r h.2.2, zu_r h.2.1, zu_r h.1]
theorem zgive_o {ν : zMu} {k p : Nat} {x y : Int32} (h : k ≠ 16 ∧ k ≠ 17 ∧ k ≠ 18) : zgive ν p x y k = ν k := by
  unfold zgive
  rw [zu_r h.2.2, zu_r h.2.1, zu_r h.1]
theorem cgat_o {rf rt : Nat → Nat} {c k : Nat} (h : k ≠ 16 ∧ k ≠ 17 ∧ k ≠ 18) (i : Nat) (ν : zMu) : cgat rf rt c i ν k = ν k := by
  unfold cgat
  by_cases h1 : zkn ν c (rf i) ∧ ¬ zkn ν c (rt i)
  · rw [if_pos h1, zgive_o h]
  · rw [if_neg h1]
    by_cases h2 : zkn ν c (rt i) ∧ ¬ zkn ν c (rf i)
    · rw [if_pos h2, zgive_o h]
    · rw [if_neg h2]
theorem cgather_o {rf rt : Nat → Nat} {c n k : Nat} (h : k ≠ 16 ∧ k ≠ 17 ∧ k ≠ 18) (μ : zMu) : cgather rf rt c n μ k = μ k := by
  unfold cgather
  rw [zit_keep (cgat_o h), zit_keep (cbeg_o h)]
theorem zput_o {μ : zMu} {c p k : Nat} {x y s : Int32} (h : k ≠ 34 + 7 * c ∧ k ≠ 35 + 7 * c ∧ k ≠ 37 + 7 * c) : zput μ c p x y s k = μ k := by
  unfold zput
  rw [zu_r h.2.2, zu_r h.2.1, zu_r h.1]
theorem cset_o {c k : Nat} (h : k ≠ 34 + 7 * c ∧ k ≠ 35 + 7 * c ∧ k ≠ 37 + 7 * c) : ∀ (n : Nat) (s : Int32 × zMu), (zit (cset c) 0 n s).2 k = s.2 k
  | 0, _ => rfl
  | n + 1, s => by
    rw [zit_s, cset]
    by_cases h1 : (zit (cset c) 0 n s).2 18 (0 + n) ≤ 0
    · rw [if_pos h1, cset_o h n s]
    · rw [if_neg h1]
      show zput _ _ _ _ _ _ k = _
      rw [zput_o h, cset_o h n s]
theorem clay_o {rf rt : Nat → Nat} {c n k : Nat} (h1 : k ≠ 16 ∧ k ≠ 17 ∧ k ≠ 18) (h2 : k ≠ 34 + 7 * c ∧ k ≠ 35 + 7 * c ∧ k ≠ 37 + 7 * c) (i : Nat) (s : Int32 × zMu) : (clay rf rt c n i s).2 k = s.2 k := by
  unfold clay
  by_cases h : s.1 = 0
  · rw [if_pos h]
  · rw [if_neg h, cset_o h2]
    exact cgather_o h1 s.2
/-- where the reports lead, by numbers -/
abbrev zft (μ : zMu) (n : Nat) (rf rt : Nat → Nat) : Prop := ∀ i, i < n → μ 11 i = nI (rf i) ∧ μ 12 i = nI (rt i) ∧ rf i < 24 ∧ rt i < 24
theorem zft_k {μ ν : zMu} {n : Nat} {rf rt : Nat → Nat} (h : zft μ n rf rt) (h1 : ν 11 = μ 11) (h2 : ν 12 = μ 12) : zft ν n rf rt := fun i hi => by rw [h1, h2]; exact h i hi
/-! bodies of the class's public loops -/
def cchp (c i : Nat) (ν : zMu) : zMu := zu (zput ν c i 100000 100000 (-1)) (36 + 7 * c) i ((zput ν c i 100000 100000 (-1)) 5 i)
def cchs (c i : Nat) (ν : zMu) : zMu := zu ν (38 + 7 * c) i (nI 100)
def cch0 (c : Nat) (y : Int32) (μ : zMu) : zMu := zit (cchs c) 0 3 (zit (cchp c) 0 24 (zu μ (33 + 7 * c) 0 y))
def cch1 (c : Nat) (y : Int32) (μ : zMu) : zMu := zput (cch0 c y μ) c 0 (cch0 c y μ 3 0) (cch0 c y μ 4 0) (-1)
def cchart (rf rt : Nat → Nat) (c r : Nat) (y : Int32) (μ : zMu) : zMu := zu (zit (clay rf rt c r) 0 24 (nI 1, cch1 c y μ)).2 1 7 (nI (c + 1))
def ccpn (d k : Nat) (nm : Nat → Nat) (i : Nat) (ν : zMu) : zMu := zu ν (36 + 7 * d) i (ν (26 + 2 * k) (nm i))
def ccp (c d k : Nat) (nm : Nat → Nat) (way : Int32) (i : Nat) (ν : zMu) : zMu :=
  if zkn (ccpn d k nm i ν) c i then zput (ccpn d k nm i ν) d i (zdraw ((ccpn d k nm i ν) (34 + 7 * c) i) way ((ccpn d k nm i ν) (25 + 2 * k) 0)) (zdraw ((ccpn d k nm i ν) (35 + 7 * c) i) way (-(ccpn d k nm i ν) (25 + 2 * k) 0)) (nI c)
  else zput (ccpn d k nm i ν) d i 100000 100000 (-1)
def ccopy (c d k : Nat) (nm : Nat → Nat) (way y : Int32) (μ : zMu) : zMu := zu (zit (cfr2 d c) 0 20 (zit (cfr1 d c) 0 3 (zit (ccp c d k nm way) 0 24 (zu μ (33 + 7 * d) 0 y)))) 1 7 (nI (d + 1))
theorem ccp_o {c d k : Nat} {nm : Nat → Nat} {way : Int32} {q : Nat} (h : q ≠ 34 + 7 * d ∧ q ≠ 35 + 7 * d ∧ q ≠ 37 + 7 * d) (h2 : q ≠ 36 + 7 * d) (i : Nat) (ν : zMu) : ccp c d k nm way i ν q = ν q := by
  unfold ccp
  by_cases h1 : zkn (ccpn d k nm i ν) c i
  · rw [if_pos h1, zput_o h, ccpn, zu_r h2]
  · rw [if_neg h1, zput_o h, ccpn, zu_r h2]
theorem cchp_o {c q : Nat} (h : q ≠ 34 + 7 * c ∧ q ≠ 35 + 7 * c ∧ q ≠ 37 + 7 * c) (h2 : q ≠ 36 + 7 * c) (i : Nat) (ν : zMu) : cchp c i ν q = ν q := by
  unfold cchp
  rw [zu_r h2, zput_o h]
theorem cchs_o {c q : Nat} (h : q ≠ 38 + 7 * c) (i : Nat) (ν : zMu) : cchs c i ν q = ν q := zu_r h
theorem cch1_o {c q : Nat} {y : Int32} {μ : zMu} (h : q < 33 + 7 * c) : cch1 c y μ q = μ q := by
  unfold cch1
  rw [zput_o (by omega)]
  unfold cch0
  rw [zit_keep (cchs_o (by omega)), zit_keep (cchp_o (by omega) (by omega)), zu_r (by omega)]
def cpan (a b i : Nat) (ν : zMu) : zMu := zu ν (36 + 7 * a) i (ν (36 + 7 * b) i)
def cpa (a b : Nat) (x y : Int32) (i : Nat) (ν : zMu) : zMu :=
  if zkn (cpan a b i ν) b i then zput (cpan a b i ν) a i ((cpan a b i ν) (34 + 7 * b) i + x) ((cpan a b i ν) (35 + 7 * b) i + y) (nI b) else zput (cpan a b i ν) a i 100000 100000 (-1)
def cmv (μ : zMu) (a b f q : Nat) : Int32 := if zkn μ a f ∧ zkn μ b f then μ (q + 7 * a) f - μ (q + 7 * b) f else nI 0
def clo (c i : Nat) (ν : zMu) : zMu := zput ν c i 100000 100000 (-1)
def ckin (μ : zMu) (c b i : Nat) (s : Int32 × Int32) : Int32 × Int32 := if cshared μ c i b ≤ s.2 then s else (nI i, cshared μ c i b)
def cda (μ : zMu) (c i : Nat) (s : Int32) : Int32 := if ztn μ c i then (if s < μ 6 i then μ 6 i else s) else s
def zat (μ : zMu) (c p : Nat) : Nat → Int32
  | 0 => μ (34 + 7 * c) p
  | 1 => μ (35 + 7 * c) p
  | 2 => μ (36 + 7 * c) p
  | 3 => μ (37 + 7 * c) p
  | 4 => if zkn μ c p then μ (34 + 7 * c) p - μ 3 p else 100000
  | _ => if zkn μ c p then μ (35 + 7 * c) p - μ 4 p else 100000
def zof (μ : zMu) (c : Nat) : Nat → Int32
  | 0 => μ (33 + 7 * c) 0
  | 1 => zit (ckn μ c) 0 24 (nI 0)
  | 2 => zit (cisl μ c c) 0 20 (nI 0)
  | 3 => μ (38 + 7 * c) 0
  | 4 => μ (38 + 7 * c) 1
  | 5 => μ (38 + 7 * c) 2
  | _ => zit (cfal μ c) 0 24 (nI 0)
def zoi (μ : zMu) (nc i : Nat) : Nat → Int32
  | 0 => zit (cwith μ i) 0 nc (nI 0)
  | 1 => μ 22 i
  | 2 => μ 23 i
  | 3 => μ 24 i
  | _ => zit (chigh μ i) 0 nc (-1)
def zfi (μ : zMu) (c b : Nat) : Nat → Int32
  | 0 => cshift μ c b 34 3
  | 1 => cshift μ c b 35 4
  | _ => zit (cres μ c (cshift μ c b 34 3) (cshift μ c b 35 4)) (b * 8) 8 (nI 0)
def zchn (μ : zMu) (nc c p k : Nat) : Int32 := if 12 ≤ k ∨ ¬ zkn μ c p then -1 else zit (fun _ l => zsrc μ nc p l) 0 k (nI c)
theorem zsw {x : Int32} {n : Nat} (h : ¬ zrg n x) (hn : n < 2147483648) : x.toInt < 0 ∨ (n : Int) - 1 < x.toInt := by
  by_cases h0 : x < 0
  · left; simpa using Int32.lt_iff_toInt_lt.mp h0
  · right
    by_cases h1 : x < nI n
    · exact absurd ⟨h0, h1⟩ h
    · obtain ⟨j, hj, rfl⟩ := nI_of h0
      rw [nI_toInt hj]
      have h9 : ¬ j < n := fun q => h1 ((nI_ltI hj hn).mpr q)
      omega
def zrx (μ : zMu) (q f t : Nat) : Int32 := (μ 3 t - μ 3 f) - (μ 4 t - μ 4 f) * μ 8 q / nI 100
def zry (μ : zMu) (q f t : Nat) : Int32 := (μ 4 t - μ 4 f) + (μ 3 t - μ 3 f) * μ 8 q / nI 100
theorem zifn {c : Prop} [Decidable c] {a b : zO} {k : Nat} (h1 : zn a.2 = k) (h2 : zn b.2 = k) : zn (if c then a else b).2 = k := by
  split
  · exact h1
  · exact h2
theorem zMM {o : zO} {M : zM} (h : zn o.2 = zn M) : zn M ≤ zn o.2 ∧ (zn M < zn o.2 → zt M = true) := ⟨Nat.le_of_eq h.symm, fun q => absurd q (by omega)⟩
theorem z_oeq {F : Bool} {E : Nat × (Nat → Int32)} {K : zK} {n0 : Nat} {o o' : zO} {pc : Nat} {ls sk : List Value} {M : zM} {u us : Nat} (h : o = o') (kk : zV F E K n0 o' pc ls sk M u us) : zV F E K n0 o pc ls sk M u us := by rw [h]; exact kk
theorem zbn0 {y : Int32} (h : y = 0 ∨ y = 1) : narrow .boolean (.int y) = .int y := by rcases h with rfl | rfl <;> rfl
theorem znm_of {v : Int32} (h : znm v) : ∃ j, j < 100 ∧ v = nI j := by
  have h0 : ¬ v < 0 := by
    have h1 := Int32.le_iff_toInt_le.mp (Int32.not_lt.mp h.1)
    intro q
    have h2 := Int32.lt_iff_toInt_lt.mp q
    rw [nI_toInt (by decide)] at h1
    have h3 : (0 : Int32).toInt = 0 := rfl
    omega
  obtain ⟨j, hj, rfl⟩ := nI_of h0
  refine ⟨j, ?_, rfl⟩
  have h4 : ¬ 99 < j := fun q => h.2 ((nI_ltI (by decide) hj).mpr q)
  omega
theorem zlf_int {x y : Int32} {M : zM} (h : x = y) : ((.inl (some (.int x)), M) : zO) = (.inl (some (.int y)), M) := by rw [h]
