/-! what charts share: the class's count is the law's -/
theorem sub_0 {x y : Int32} : x - y = 0 ↔ x = y := by
  refine ⟨fun h => ?_, fun h => by rw [h, Int32.sub_self]⟩
  have h2 : x - y + y = 0 + y := by rw [h]
  rw [Int32.sub_add_cancel, Int32.zero_add] at h2
  exact h2
theorem bit_iff {μ ν : zMu} {nc ni a k : Nat} (hB : iB μ ν nc ni) (ha : a < 5) (hk : k < 4) : sbit (ν 5 k) a ↔ ¬ μ (39 + 7 * a) k = 0 := by
  obtain ⟨v, hv, e, h⟩ := hB.1 k hk
  unfold sbit
  rw [h a ha]
  rcases (hB.2 a (by omega) k (by omega)).1 with h1 | h1
  · rw [h1]; decide
  · rw [h1]; decide
theorem isl_eq {μ ν : zMu} {nc ni a b : Nat} (hB : iB μ ν nc ni) (ha : a < 5) (hb : b < 5) : ∀ n, n ≤ 4 → zit (cisl μ a b) 0 n (nI 0) = nI (sI ν a b n)
  | 0, _ => rfl
  | n + 1, h => by
    rw [zit_s, isl_eq hB ha hb n (by omega), Nat.zero_add, cisl]
    have h1 := bit_iff hB ha (show n < 4 by omega)
    have h2 := bit_iff hB hb (show n < 4 by omega)
    by_cases q : sbit (ν 5 n) a ∧ sbit (ν 5 n) b
    · rw [if_pos ⟨h1.mp q.1, h2.mp q.2⟩]
      show _ = nI (sI ν a b n + wN (sbit (ν 5 n) a ∧ sbit (ν 5 n) b))
      rw [wN_t q]
      exact nI_1 _
    · rw [if_neg (fun z => q ⟨h1.mpr z.1, h2.mpr z.2⟩)]
      show _ = nI (sI ν a b n + wN (sbit (ν 5 n) a ∧ sbit (ν 5 n) b))
      rw [wN_f q]
      rfl
theorem isl20 {μ ν : zMu} {nc ni a b : Nat} (hB : iB μ ν nc ni) (hni : ni ≤ 4) (ha : a < 5) (hb : b < 5) : zit (cisl μ a b) 0 20 (nI 0) = nI (sI ν a b 4) := by
  rw [← isl_eq hB ha hb 4 (Nat.le_refl 4)]
  refine zit_end (n := 4) 16 (fun i h1 h2 r => ?_)
  rw [Nat.zero_add, cisl, if_neg (fun z => z.1 ((hB.2 a (by omega) i (by omega)).2 (Or.inr (by omega))))]
theorem sP_iff {μ ν : zMu} {nc a b p : Nat} (hn : nc ≤ 5) (ha : a < 5) (hb : b < 5) (hp : p < 10) (hT : iT μ ν) (hA : iP μ ν nc a p) (hB : iP μ ν nc b p) : sP ν a b p ↔ zshe μ a b p := by
  obtain ⟨t1, t2, -⟩ := hT.1 p hp
  unfold sP zshe
  rw [iP_le hn hA, iP_le hn hB, iP_kn hn ha hA, iP_kn hn hb hB]
  rcases hA.2 with ⟨h1, -⟩ | ⟨h1, h2, h3, -⟩
  · exact ⟨fun q => absurd h1 q.1, fun q => absurd h1 q.1⟩
  · rcases hB.2 with ⟨h4, -⟩ | ⟨h4, h5, h6, -⟩
    · exact ⟨fun q => absurd h4 q.2.1, fun q => absurd h4 q.2.1⟩
    · rw [h2, h3, h5, h6, t1, t2, sub_0, sub_0]
theorem sQ_iff {μ ν : zMu} {nc a b p : Nat} (hp : p < 10) (hT : iT μ ν) (hA : iP μ ν nc a p) (hB : iP μ ν nc b p) : sQ ν a b p ↔ (μ (36 + 7 * a) p = μ (36 + 7 * b) p ∧ ¬ ztn μ a p) := by
  obtain ⟨-, -, t3, -⟩ := hT.1 p hp
  unfold sQ ztn
  rw [hA.1.1, hB.1.1, t3]
theorem csha_n {μ : zMu} {a b i s : Nat} : csha μ a b i (nI s) = nI (s + wN (zshe μ a b i) + wN (μ (36 + 7 * a) i = μ (36 + 7 * b) i ∧ ¬ ztn μ a i)) := by
  unfold csha
  by_cases p : zshe μ a b i
  · rw [wN_t p, if_pos p]
    by_cases q : μ (36 + 7 * a) i = μ (36 + 7 * b) i ∧ ¬ ztn μ a i
    · rw [wN_t q, if_pos q, nI_1, nI_1]
    · rw [wN_f q, if_neg q, nI_1]
  · rw [wN_f p, if_neg p]
    by_cases q : μ (36 + 7 * a) i = μ (36 + 7 * b) i ∧ ¬ ztn μ a i
    · rw [wN_t q, if_pos q, nI_1]
    · rw [wN_f q, if_neg q]
      rfl
theorem sC_eq {μ ν : zMu} {nc a b : Nat} (hn : nc ≤ 5) (ha : a < nc) (hb : b < nc) (hT : iT μ ν) (hK : iK μ ν nc) (l s0 : Nat) : ∀ n, l + n ≤ 10 → zit (csha μ a b) l n (nI s0) = nI (s0 + sC ν a b l n)
  | 0, _ => rfl
  | n + 1, h => by
    rw [zit_s, sC_eq hn ha hb hT hK l s0 n (by omega), csha_n]
    have hA := (hK a ha).2.2.1 (l + n) (by omega)
    have hB := (hK b hb).2.2.1 (l + n) (by omega)
    rw [← wN_c (sP_iff hn (by omega) (by omega) (by omega) hT hA hB), ← wN_c (sQ_iff (by omega) hT hA hB)]
    show _ = nI (s0 + (sC ν a b l n + wN _ + wN _))
    congr 1
    omega
theorem shared_eq {μ ν : zMu} {nc ni a b bs N : Nat} (hn : nc ≤ 5) (hni : ni ≤ 4) (ha : a < nc) (hb : b < nc) (hT : iT μ ν) (hK : iK μ ν nc) (hB : iB μ ν nc ni) (hN : bs = 0 ∧ N = 8 ∨ bs = 1 ∧ N = 2) : cshared μ a b bs = nI (sC ν a b (8 * bs) N + sI ν a b 4) := by
  unfold cshared
  rw [isl20 hB hni (by omega) (by omega), Nat.mul_comm bs 8, Nat.add_comm, ← sC_eq hn ha hb hT hK (8 * bs) (sI ν a b 4) N (by omega)]
  have e : (8 : Nat) = N + (8 - N) := by omega
  rw [show zit (csha μ a b) (8 * bs) 8 (nI (sI ν a b 4)) = zit (csha μ a b) (8 * bs) (N + (8 - N)) (nI (sI ν a b 4)) by rw [← e]]
  refine zit_end (n := N) (8 - N) (fun i h1 h2 r => ?_)
  have hO := (hK a ha).2.2.2 (8 * bs + i) (by omega) (by omega)
  have hz : ¬ zshe μ a b (8 * bs + i) := fun q => iO_kn hO q.1
  have ht : ztn μ a (8 * bs + i) := by
    unfold ztn
    rw [hO.1, hT.2 _ (by omega) (by omega)]
  unfold csha
  rw [if_neg hz, if_neg (fun q => q.2 ht)]
theorem sP_sym {ν : zMu} {a b p : Nat} (h : sP ν a b p) : sP ν b a p := by
  obtain ⟨h1, h2, h3, h4, h5⟩ := h
  refine ⟨h2, h1, h3.symm, h4.symm, ?_⟩
  rw [← h3, ← h4]
  exact h5
theorem sQ_sym {ν : zMu} {a b p : Nat} (h : sQ ν a b p) : sQ ν b a p := by
  obtain ⟨h1, h2⟩ := h
  refine ⟨h1.symm, ?_⟩
  rw [← h1]
  exact h2
theorem sC_sym (ν : zMu) (a b l : Nat) : ∀ n, sC ν b a l n = sC ν a b l n
  | 0 => rfl
  | n + 1 => by
    show sC ν b a l n + wN (sP ν b a (l + n)) + wN (sQ ν b a (l + n)) = sC ν a b l n + wN (sP ν a b (l + n)) + wN (sQ ν a b (l + n))
    rw [sC_sym ν a b l n, wN_c (Q := sP ν a b (l + n)) ⟨sP_sym, sP_sym⟩, wN_c (Q := sQ ν a b (l + n)) ⟨sQ_sym, sQ_sym⟩]
theorem sI_sym (ν : zMu) (a b : Nat) : ∀ n, sI ν b a n = sI ν a b n
  | 0 => rfl
  | n + 1 => by
    show sI ν b a n + wN (sbit (ν 5 n) b ∧ sbit (ν 5 n) a) = sI ν a b n + wN (sbit (ν 5 n) a ∧ sbit (ν 5 n) b)
    rw [sI_sym ν a b n, wN_c (Q := sbit (ν 5 n) a ∧ sbit (ν 5 n) b) And.comm]
/-- sums of the errors of the first basin -/
theorem cshf_k {μ : zMu} {c a t i : Nat} {k : Nat} {s : Int32} (h : zkn μ c i) : cshf μ c a t i (nI k, s) = (nI (k + 1), s + (μ (a + 7 * c) i - μ t i)) := by
  unfold cshf
  rw [if_pos h]
  show (nI k + 1, _) = _
  rw [nI_1]
theorem cshf_u {μ : zMu} {c a t i : Nat} {s : Int32 × Int32} (h : ¬ zkn μ c i) : cshf μ c a t i s = s := by
  unfold cshf
  rw [if_neg h]
theorem cshift_0 {μ : zMu} {c a t k : Nat} {s : Int32} (h : zit (cshf μ c a t) 0 8 (nI 0, nI 0) = (nI k, s)) (hk : k ≤ 8) : cshift μ c 0 a t = if k = 0 then nI 0 else s / nI k := by
  unfold cshift
  rw [Nat.zero_mul, h]
  unfold zquo
  by_cases q : k = 0
  · subst q
    exact (if_pos (show (nI 0, s).1 ≤ 0 from (by decide : nI 0 ≤ 0))).trans (if_pos rfl).symm
  · rw [if_neg (fun z => q ((z0l (n := k) (by omega)).mp z)), if_neg q]
/-- locals by another name -/
theorem z_lseq {F : Bool} {E : Nat × (Nat → Int32)} {K : zK} {n0 : Nat} {o : zO} {pc : Nat} {ls ls1 sk : List Value} {M : zM} {u us : Nat} (h : ls = ls1) (kk : zV F E K n0 o pc ls1 sk M u us) : zV F E K n0 o pc ls sk M u us := by rw [h]; exact kk
