section
-- ===== PART A: goes FIRST, ahead of the names: the tables' words, and 'selects' of the private methods out of them =====
/-- a private method of a class that the tables say can be made, by its rows of tables_1 -/
def lw_okq (q : MethodName × Nat) : Prop := (q.1.cls ≠ "java/lang/invoke/MethodHandle" ∧ q.1.cls ≠ "java/lang/invoke/VarHandle") ∧ Cond.instantiable q.1.cls q.2 ∈ tables_1 ∧ Cond.privateMethod q.1 ∈ tables_1 ∧ Cond.instanceMethod q.1 ∈ tables_1
theorem lw_p0 : lw_okq (⟨"java/lang/Throwable", "fillInStackTrace", "(I)Ljava/lang/Throwable;"⟩, 6) := ⟨⟨by decide +kernel, by decide +kernel⟩, List.mem_of_getElem? (i := 264) (by decide +kernel), List.mem_of_getElem? (i := 262) (by decide +kernel), List.mem_of_getElem? (i := 263) (by decide +kernel)⟩
theorem lw_p1 : lw_okq (⟨"PortolanHall", "needRoomForChart", "()V"⟩, 8) := ⟨⟨by decide +kernel, by decide +kernel⟩, List.mem_of_getElem? (i := 18) (by decide +kernel), List.mem_of_getElem? (i := 362) (by decide +kernel), List.mem_of_getElem? (i := 363) (by decide +kernel)⟩
theorem lw_p2 : lw_okq (⟨"PortolanHall", "layOut", "(LPortolanHall$Chart;I)V"⟩, 8) := ⟨⟨by decide +kernel, by decide +kernel⟩, List.mem_of_getElem? (i := 18) (by decide +kernel), List.mem_of_getElem? (i := 377) (by decide +kernel), List.mem_of_getElem? (i := 378) (by decide +kernel)⟩
theorem lw_p3 : lw_okq (⟨"PortolanHall", "gather", "(LPortolanHall$Chart;I)V"⟩, 8) := ⟨⟨by decide +kernel, by decide +kernel⟩, List.mem_of_getElem? (i := 18) (by decide +kernel), List.mem_of_getElem? (i := 381) (by decide +kernel), List.mem_of_getElem? (i := 382) (by decide +kernel)⟩
theorem lw_p4 : lw_okq (⟨"PortolanHall", "copyistOf", "(I)LPortolanHall$Copyist;"⟩, 8) := ⟨⟨by decide +kernel, by decide +kernel⟩, List.mem_of_getElem? (i := 18) (by decide +kernel), List.mem_of_getElem? (i := 409) (by decide +kernel), List.mem_of_getElem? (i := 410) (by decide +kernel)⟩
theorem lw_p5 : lw_okq (⟨"PortolanHall", "chartOf", "(I)LPortolanHall$Chart;"⟩, 8) := ⟨⟨by decide +kernel, by decide +kernel⟩, List.mem_of_getElem? (i := 18) (by decide +kernel), List.mem_of_getElem? (i := 430) (by decide +kernel), List.mem_of_getElem? (i := 431) (by decide +kernel)⟩
theorem lw_p6 : lw_okq (⟨"PortolanHall", "leadsBack", "(IIII)Z"⟩, 8) := ⟨⟨by decide +kernel, by decide +kernel⟩, List.mem_of_getElem? (i := 18) (by decide +kernel), List.mem_of_getElem? (i := 457) (by decide +kernel), List.mem_of_getElem? (i := 458) (by decide +kernel)⟩
theorem lw_p7 : lw_okq (⟨"PortolanHall", "sourceOf", "(II)I"⟩, 8) := ⟨⟨by decide +kernel, by decide +kernel⟩, List.mem_of_getElem? (i := 18) (by decide +kernel), List.mem_of_getElem? (i := 461) (by decide +kernel), List.mem_of_getElem? (i := 462) (by decide +kernel)⟩
theorem lw_p8 : lw_okq (⟨"PortolanHall", "needIsland", "(I)V"⟩, 8) := ⟨⟨by decide +kernel, by decide +kernel⟩, List.mem_of_getElem? (i := 18) (by decide +kernel), List.mem_of_getElem? (i := 541) (by decide +kernel), List.mem_of_getElem? (i := 542) (by decide +kernel)⟩
theorem lw_p9 : lw_okq (⟨"PortolanHall", "errorOf", "(LPortolanHall$Chart;IZ)I"⟩, 8) := ⟨⟨by decide +kernel, by decide +kernel⟩, List.mem_of_getElem? (i := 18) (by decide +kernel), List.mem_of_getElem? (i := 561) (by decide +kernel), List.mem_of_getElem? (i := 562) (by decide +kernel)⟩
theorem lw_p10 : lw_okq (⟨"PortolanHall", "falseNames", "(LPortolanHall$Chart;)I"⟩, 8) := ⟨⟨by decide +kernel, by decide +kernel⟩, List.mem_of_getElem? (i := 18) (by decide +kernel), List.mem_of_getElem? (i := 590) (by decide +kernel), List.mem_of_getElem? (i := 591) (by decide +kernel)⟩
theorem lw_p11 : lw_okq (⟨"PortolanHall", "hasTrueName", "(LPortolanHall$Chart;I)Z"⟩, 8) := ⟨⟨by decide +kernel, by decide +kernel⟩, List.mem_of_getElem? (i := 18) (by decide +kernel), List.mem_of_getElem? (i := 594) (by decide +kernel), List.mem_of_getElem? (i := 595) (by decide +kernel)⟩
theorem lw_p12 : lw_okq (⟨"PortolanHall", "chartsWith", "(I)I"⟩, 8) := ⟨⟨by decide +kernel, by decide +kernel⟩, List.mem_of_getElem? (i := 18) (by decide +kernel), List.mem_of_getElem? (i := 605) (by decide +kernel), List.mem_of_getElem? (i := 606) (by decide +kernel)⟩
theorem lw_p13 : lw_okq (⟨"PortolanHall", "highestChartWith", "(I)I"⟩, 8) := ⟨⟨by decide +kernel, by decide +kernel⟩, List.mem_of_getElem? (i := 18) (by decide +kernel), List.mem_of_getElem? (i := 609) (by decide +kernel), List.mem_of_getElem? (i := 610) (by decide +kernel)⟩
theorem lw_p14 : lw_okq (⟨"PortolanHall", "shift", "(LPortolanHall$Chart;IZ)I"⟩, 8) := ⟨⟨by decide +kernel, by decide +kernel⟩, List.mem_of_getElem? (i := 18) (by decide +kernel), List.mem_of_getElem? (i := 620) (by decide +kernel), List.mem_of_getElem? (i := 621) (by decide +kernel)⟩
theorem lw_p15 : lw_okq (⟨"PortolanHall", "residual", "(LPortolanHall$Chart;I)I"⟩, 8) := ⟨⟨by decide +kernel, by decide +kernel⟩, List.mem_of_getElem? (i := 18) (by decide +kernel), List.mem_of_getElem? (i := 625) (by decide +kernel), List.mem_of_getElem? (i := 626) (by decide +kernel)⟩
def lw_privs_1 : List (MethodName × Nat) := [(⟨"java/lang/Throwable", "fillInStackTrace", "(I)Ljava/lang/Throwable;"⟩, 6), (⟨"PortolanHall", "needRoomForChart", "()V"⟩, 8), (⟨"PortolanHall", "layOut", "(LPortolanHall$Chart;I)V"⟩, 8), (⟨"PortolanHall", "gather", "(LPortolanHall$Chart;I)V"⟩, 8), (⟨"PortolanHall", "copyistOf", "(I)LPortolanHall$Copyist;"⟩, 8), (⟨"PortolanHall", "chartOf", "(I)LPortolanHall$Chart;"⟩, 8), (⟨"PortolanHall", "leadsBack", "(IIII)Z"⟩, 8), (⟨"PortolanHall", "sourceOf", "(II)I"⟩, 8), (⟨"PortolanHall", "needIsland", "(I)V"⟩, 8), (⟨"PortolanHall", "errorOf", "(LPortolanHall$Chart;IZ)I"⟩, 8), (⟨"PortolanHall", "falseNames", "(LPortolanHall$Chart;)I"⟩, 8), (⟨"PortolanHall", "hasTrueName", "(LPortolanHall$Chart;I)Z"⟩, 8), (⟨"PortolanHall", "chartsWith", "(I)I"⟩, 8), (⟨"PortolanHall", "highestChartWith", "(I)I"⟩, 8), (⟨"PortolanHall", "shift", "(LPortolanHall$Chart;IZ)I"⟩, 8), (⟨"PortolanHall", "residual", "(LPortolanHall$Chart;I)I"⟩, 8)]
theorem lw_r1 : ∀ q ∈ lw_privs_1, lw_okq q := List.forall_mem_cons.mpr ⟨lw_p0, List.forall_mem_cons.mpr ⟨lw_p1, List.forall_mem_cons.mpr ⟨lw_p2, List.forall_mem_cons.mpr ⟨lw_p3, List.forall_mem_cons.mpr ⟨lw_p4, List.forall_mem_cons.mpr ⟨lw_p5, List.forall_mem_cons.mpr ⟨lw_p6, List.forall_mem_cons.mpr ⟨lw_p7, List.forall_mem_cons.mpr ⟨lw_p8, List.forall_mem_cons.mpr ⟨lw_p9, List.forall_mem_cons.mpr ⟨lw_p10, List.forall_mem_cons.mpr ⟨lw_p11, List.forall_mem_cons.mpr ⟨lw_p12, List.forall_mem_cons.mpr ⟨lw_p13, List.forall_mem_cons.mpr ⟨lw_p14, List.forall_mem_cons.mpr ⟨lw_p15, fun _ h => absurd h List.not_mem_nil⟩⟩⟩⟩⟩⟩⟩⟩⟩⟩⟩⟩⟩⟩⟩⟩
theorem lw_p16 : lw_okq (⟨"PortolanHall", "sharedBy", "(LPortolanHall$Chart;LPortolanHall$Chart;I)I"⟩, 8) := ⟨⟨by decide +kernel, by decide +kernel⟩, List.mem_of_getElem? (i := 18) (by decide +kernel), List.mem_of_getElem? (i := 639) (by decide +kernel), List.mem_of_getElem? (i := 640) (by decide +kernel)⟩
theorem lw_p17 : lw_okq (⟨"PortolanHall", "shareError", "(LPortolanHall$Chart;LPortolanHall$Chart;I)Z"⟩, 8) := ⟨⟨by decide +kernel, by decide +kernel⟩, List.mem_of_getElem? (i := 18) (by decide +kernel), List.mem_of_getElem? (i := 644) (by decide +kernel), List.mem_of_getElem? (i := 645) (by decide +kernel)⟩
theorem lw_p18 : lw_okq (⟨"PortolanHallModel", "rounds", "(I)Z"⟩, 34) := ⟨⟨by decide +kernel, by decide +kernel⟩, List.mem_of_getElem? (i := 665) (by decide +kernel), List.mem_of_getElem? (i := 809) (by decide +kernel), List.mem_of_getElem? (i := 810) (by decide +kernel)⟩
theorem lw_p19 : lw_okq (⟨"PortolanHallModel", "gives", "(IIII)V"⟩, 34) := ⟨⟨by decide +kernel, by decide +kernel⟩, List.mem_of_getElem? (i := 665) (by decide +kernel), List.mem_of_getElem? (i := 813) (by decide +kernel), List.mem_of_getElem? (i := 814) (by decide +kernel)⟩
theorem lw_p20 : lw_okq (⟨"PortolanHallModel", "isChart", "(I)Z"⟩, 34) := ⟨⟨by decide +kernel, by decide +kernel⟩, List.mem_of_getElem? (i := 665) (by decide +kernel), List.mem_of_getElem? (i := 832) (by decide +kernel), List.mem_of_getElem? (i := 833) (by decide +kernel)⟩
theorem lw_p21 : lw_okq (⟨"PortolanHallModel", "isInChain", "(III)Z"⟩, 34) := ⟨⟨by decide +kernel, by decide +kernel⟩, List.mem_of_getElem? (i := 665) (by decide +kernel), List.mem_of_getElem? (i := 843) (by decide +kernel), List.mem_of_getElem? (i := 844) (by decide +kernel)⟩
theorem lw_p22 : lw_okq (⟨"PortolanHallModel", "next", "(II)I"⟩, 34) := ⟨⟨by decide +kernel, by decide +kernel⟩, List.mem_of_getElem? (i := 665) (by decide +kernel), List.mem_of_getElem? (i := 847) (by decide +kernel), List.mem_of_getElem? (i := 848) (by decide +kernel)⟩
theorem lw_p23 : lw_okq (⟨"PortolanHallModel", "isNear", "(III)Z"⟩, 34) := ⟨⟨by decide +kernel, by decide +kernel⟩, List.mem_of_getElem? (i := 665) (by decide +kernel), List.mem_of_getElem? (i := 851) (by decide +kernel), List.mem_of_getElem? (i := 852) (by decide +kernel)⟩
theorem lw_p24 : lw_okq (⟨"PortolanHallModel", "canShrink", "(III)Z"⟩, 34) := ⟨⟨by decide +kernel, by decide +kernel⟩, List.mem_of_getElem? (i := 665) (by decide +kernel), List.mem_of_getElem? (i := 870) (by decide +kernel), List.mem_of_getElem? (i := 871) (by decide +kernel)⟩
theorem lw_p25 : lw_okq (⟨"PortolanHallModel", "isIsland", "(I)Z"⟩, 34) := ⟨⟨by decide +kernel, by decide +kernel⟩, List.mem_of_getElem? (i := 665) (by decide +kernel), List.mem_of_getElem? (i := 882) (by decide +kernel), List.mem_of_getElem? (i := 883) (by decide +kernel)⟩
theorem lw_p26 : lw_okq (⟨"PortolanHallModel", "shifts", "(II)V"⟩, 34) := ⟨⟨by decide +kernel, by decide +kernel⟩, List.mem_of_getElem? (i := 665) (by decide +kernel), List.mem_of_getElem? (i := 911) (by decide +kernel), List.mem_of_getElem? (i := 912) (by decide +kernel)⟩
theorem lw_p27 : lw_okq (⟨"PortolanHallModel", "sharedBy", "(III)I"⟩, 34) := ⟨⟨by decide +kernel, by decide +kernel⟩, List.mem_of_getElem? (i := 665) (by decide +kernel), List.mem_of_getElem? (i := 922) (by decide +kernel), List.mem_of_getElem? (i := 923) (by decide +kernel)⟩
def lw_privs_2 : List (MethodName × Nat) := [(⟨"PortolanHall", "sharedBy", "(LPortolanHall$Chart;LPortolanHall$Chart;I)I"⟩, 8), (⟨"PortolanHall", "shareError", "(LPortolanHall$Chart;LPortolanHall$Chart;I)Z"⟩, 8), (⟨"PortolanHallModel", "rounds", "(I)Z"⟩, 34), (⟨"PortolanHallModel", "gives", "(IIII)V"⟩, 34), (⟨"PortolanHallModel", "isChart", "(I)Z"⟩, 34), (⟨"PortolanHallModel", "isInChain", "(III)Z"⟩, 34), (⟨"PortolanHallModel", "next", "(II)I"⟩, 34), (⟨"PortolanHallModel", "isNear", "(III)Z"⟩, 34), (⟨"PortolanHallModel", "canShrink", "(III)Z"⟩, 34), (⟨"PortolanHallModel", "isIsland", "(I)Z"⟩, 34), (⟨"PortolanHallModel", "shifts", "(II)V"⟩, 34), (⟨"PortolanHallModel", "sharedBy", "(III)I"⟩, 34)]
theorem lw_r2 : ∀ q ∈ lw_privs_2, lw_okq q := List.forall_mem_cons.mpr ⟨lw_p16, List.forall_mem_cons.mpr ⟨lw_p17, List.forall_mem_cons.mpr ⟨lw_p18, List.forall_mem_cons.mpr ⟨lw_p19, List.forall_mem_cons.mpr ⟨lw_p20, List.forall_mem_cons.mpr ⟨lw_p21, List.forall_mem_cons.mpr ⟨lw_p22, List.forall_mem_cons.mpr ⟨lw_p23, List.forall_mem_cons.mpr ⟨lw_p24, List.forall_mem_cons.mpr ⟨lw_p25, List.forall_mem_cons.mpr ⟨lw_p26, List.forall_mem_cons.mpr ⟨lw_p27, fun _ h => absurd h List.not_mem_nil⟩⟩⟩⟩⟩⟩⟩⟩⟩⟩⟩⟩
def lw_privs : List (MethodName × Nat) := lw_privs_1 ++ (lw_privs_2)
def lw_tbl : List Cond := k2_sels lw_privs ++ tables_1
theorem lw_privs_ok : ∀ q ∈ lw_privs, lw_okq q := by
  show ∀ q ∈ lw_privs_1 ++ (lw_privs_2), lw_okq q
  exact List.forall_mem_append.mpr ⟨lw_r1, lw_r2⟩
end
section
/-! ===== BEGIN words of one list among another's, by their places ===== -/
theorem goodIn_r {big : List Cond} (ws : List Cond) (ps : List Nat) (hp : ws = ps.filterMap (fun i => big[i]?)) (h : ws.all goodWord = true) : GoodIn big ws := by
  intro w hw
  have h1 := List.all_eq_true.mp h w hw
  rw [hp] at hw
  obtain ⟨i, -, hi⟩ := List.mem_filterMap.mp hw
  have hm : w ∈ big := by first | exact List.mem_of_getElem? hi | exact List.getElem?_mem hi
  exact ⟨hm, good_of_word h1⟩
theorem goodIn_app {big a b : List Cond} (ha : GoodIn big a) (hb : GoodIn big b) : GoodIn big (a ++ b) := fun w h => (List.mem_append.mp h).elim (ha w) (hb w)
theorem goodIn_ca {big a b : List Cond} {c : Cond} (ha : GoodIn big (c :: a)) (hb : GoodIn big b) : GoodIn big (c :: (a ++ b)) := fun w h => (List.mem_cons.mp h).elim (fun e => ha w (List.mem_cons.mpr (Or.inl e))) (fun h => (List.mem_append.mp h).elim (fun h => ha w (List.mem_cons.mpr (Or.inr h))) (hb w))
theorem goodIn_sub {big ws : List Cond} (hm : ∀ w ∈ ws, w ∈ big) (h : ws.all goodWord = true) : GoodIn big ws := fun w hw => ⟨hm w hw, good_of_word (List.all_eq_true.mp h w hw)⟩
/-! ===== END ===== -/

/-! ===== BEGIN exceptions that leave a method, and their catching by the caller (launches without stack traces) ===== -/
section VXA
/-! The laws vx_back, vx_callV, vx_callS, vx_callSW, vx_throw0, vx_throwS follow proofs of the library, with one case more: JvmDerived/Free/Laws.lean (Back.of_free), Shelf42/LK1.lean (callV, callS), Shelf/KitTraced.lean (throwNew0V, throwNewS). -/
/-- where a method has thrown q: the class by its name, the cell, what was written, the world -/
def vx_T (XC : String → State → State → Prop) (st : State) (q : Addr) (t : State) (mc ms : Nat) (free : Addr → Prop) : Prop :=
  ∃ (E : String) (ce : Cell) (L : List Loc), XC E st t ∧ t.heap[q]? = some ce ∧ ce.vm = .none ∧ st.vm.findClass E = some ce.cls ∧ st.WarmedH t.vm ∧ st.sameButNew ({ t with vm := st.vm } : State) L mc ms ∧ ∀ z ∈ L, free z.base
def vx_Q (Qc : Array Value → State → Outcome → State → Prop) (XC : String → State → State → Prop) (mc ms : Nat) (free : Addr → Prop) : Array Value → State → Outcome → State → Prop := fun a st o t =>
  (Qc a st o t ∧ ∃ L, FrameEnd st o t L mc ms ∧ ∀ q ∈ L, free q.base) ∨ ∃ q, o = .threw q ∧ vx_T XC st q t mc ms free
/-- a callee that returns or throws -/
def vx_Met (l : Launch) (y : MethodName) (ws : List Cond) (rm : Room) (Pc : Array Value → State → Prop) (Qc : Array Value → State → Outcome → State → Prop) (XC : String → State → State → Prop) (mc ms : Nat) (free : Addr → Prop) : Prop :=
  MetFree l y (headSpec ws rm) Pc (fun _ _ _ _ _ => True) (vx_Q Qc XC mc ms free)
def vx_Post (XC : String → State → State → Prop) (mc ms : Nat) (free : Addr → Prop) : Pt → Array Value → Addr → Pt → Prop := fun A a q B =>
  ∃ (g : JFrame) (mk : MethodId) (t : State) (L : List Loc) (E : String) (ce : Cell), B.U.heap = t.heap ∧ B.U.vm = t.vm ∧ XC E (A.U.calling g mk a) t ∧ t.heap[q]? = some ce ∧ ce.vm = .none ∧ A.U.vm.findClass E = some ce.cls ∧ B.locs = A.locs ++ L ∧ (∀ z ∈ L, free z.base) ∧ B.cells = A.cells + mc ∧ B.slots = A.slots + ms
def vx_Back (l : Launch) (R : Room) (p : Program) (e : Env) (below : List Frame) (s : State) (sargs : Array Value) (y : MethodName) (len W9 : Nat)
    (Pre : Pt → Array Value → Prop) (Post : Pt → Array Value → Option Value → Pt → Prop) (PostX : Pt → Array Value → Addr → Pt → Prop) : Prop :=
  ∀ (m : MethodId) (meth : Method) (c : Code) (A : Pt) (g : JFrame) (ig : Instr) (mk : MethodId) (a : Array Value),
    Stand p l e R s m sargs below meth c A.U A.locs A.cells A.slots → g.method = m → g.locals.size = c.maxLocals → decode c.code g.pc = .ok (ig, len) →
    2 * g.monitorRoom + (g.stack.map fun v => v.category).sum ≤ W9 → A.U.methodNamed? y = some mk → Pre A a →
    (∃ (v : Option Value) (B : Pt), Stand p l e R s m sargs below meth c B.U B.locs B.cells B.slots ∧ Post A a v B ∧
      Steps p.tables e below (doInvoke e (A.U.setTop g) [] mk a).1 (B.U.setTop { g with pc := g.pc + len, stack := v.toList ++ g.stack })) ∨
    (∃ (q : Addr) (B : Pt), Stand p l e R s m sargs below meth c B.U B.locs B.cells B.slots ∧ PostX A a q B ∧
      Steps p.tables e below (doInvoke e (A.U.setTop g) [] mk a).1 ((B.U.setTop g).pushFrame (.throwing q)))
section Payer
variable {l : Launch} {R : Room} {p : Program} {e : Env} {below : List Frame} {s : State} {sargs : Array Value} {y : MethodName} {len W9 : Nat}
theorem vx_back {ws : List Cond} {rm : Room} {Pc : Array Value → State → Prop} {Qc : Array Value → State → Outcome → State → Prop} {XC : String → State → State → Prop} {mc ms : Nat} {free : Addr → Prop} {bytes : ByteArray} {maxL : Nat} {ret : Option FieldType}
    (hM : vx_Met l y ws rm Pc Qc XC mc ms free) (hblind : FrameBlind Pc) (hrc : rm.cells = mc) (hrs : rm.slots = ms)
    (hframes : rm.frames + 1 ≤ R.frames) (hlocals : W9 + (maxL + 11) + rm.locals ≤ R.locals)
    (hws : ∀ w ∈ ws, ∀ a' U, s.WarmedH U.vm → w.before a' U = true) (hcode : Cond.code y bytes maxL ret ∈ ws) (hinit : ∀ a' U, s.WarmedH U.vm → (Cond.initialized y.cls).before a' U = true) :
    vx_Back l R p e below s sargs y len W9 (PreOf R mc ms Pc) (PostOf Qc mc ms free) (vx_Post XC mc ms free) := by
  intro m meth c A g ig mk a X hg hsize hdg hW hn hp
  have h1 : (headSpec ws rm).pre.before a A.U = true := atoms_intro fun w hw => hws w hw _ _ X.warmed
  have h2 : (Cond.code y bytes maxL ret).before a A.U = true := hws _ hcode _ _ X.warmed
  have h3 : (Cond.initialized y.cls).before a A.U = true := hinit _ _ X.warmed
  have h4 : A.cells + (headSpec ws rm).room.cells ≤ R.cells := by rw [show (headSpec ws rm).room.cells = mc from hrc]; exact hp.1
  have h5 : A.slots + (headSpec ws rm).room.slots ≤ R.slots := by rw [show (headSpec ws rm).room.slots = ms from hrs]; exact hp.2.1
  have hPc : Pc a (A.U.calling g mk a) := hblind _ _ _ _ hp.2.2
  obtain ⟨U, Ls, c0, s0⟩ := A
  dsimp only [Pt.U, Pt.locs, Pt.cells, Pt.slots] at h1 h2 h3 h4 h5 X hn hPc ⊢
  obtain ⟨methY, cY, hmY, hcY, -, hlY, -, -, -, -⟩ := Cond.code_spec hn h2
  obtain ⟨kY, hkY, -⟩ := className_of_methodNamed hn
  have hinitY : kY.init = .initialized := Cond.initialized_spec (findClass_of_methodNamed hn) hkY h3
  have h : At U g.method c below := by rw [hg]; exact X.here
  have hlocals9 : W9 + (maxL + 11) + (headSpec ws rm).room.locals ≤ R.locals := hlocals
  have happ : (headSpec ws rm).appliesLoose y e.platform (U.calling g mk a) = true :=
    Spec.appliesLoose_calling (g := g) h hdg hn hkY hinitY
      (X.room_calling (g := g) (R' := (headSpec ws rm).room) hsize hmY hcY hframes (by rw [hlY]; omega) h4 h5) h1
  obtain ⟨mid, hmid⟩ := h.above
  have hfr : (U.setTop g).frames = (.java g :: mid) ++ below := by rw [State.frames_setTop' g h.top, hmid]; rfl
  obtain ⟨o, s₂, hsteps, -, hend, hq⟩ := Steps.callFree hM p X.admits X.cas X.clock (acts := []) hfr happ hPc trivial
  have hq' : vx_Q Qc XC mc ms free a (U.calling g mk a) o s₂ := hq
  rw [State.frames_setTop' g h.top] at hend
  obtain ⟨g₀, hg0⟩ := Option.isSome_iff_exists.mp h.top
  obtain ⟨r, hr⟩ := State.topJava?_eq_some.mp hg0
  have hr' : (({ U with heap := s₂.heap, slotsUsed := s₂.slotsUsed } : State).setVm s₂.vm).frames = .java g₀ :: r := hr
  rcases hq' with ⟨hqc, L, hfe, hL⟩ | ⟨q, rfl, E, ce, L, hx, hce, hcv, hcl, hW₂, hsm, hL⟩
  · obtain ⟨⟨v, rfl⟩, hW₂, e2, q2, q3, q4, q5, q6⟩ := id hfe
    have e3 : s₂ = ({ (U.calling g mk a).setFrames s₂.frames with heap := s₂.heap, slotsUsed := s₂.slotsUsed } : State).setVm s₂.vm := by
      have : s₂ = ({ s₂ with vm := (U.calling g mk a).vm } : State).setVm s₂.vm := rfl
      rw [e2] at this
      exact this
    obtain ⟨c₂, i₂, len₂, hc₂, hd₂, hf₂⟩ := hend
    have hW' : U.WarmedH s₂.vm := hW₂
    have hcc : c₂ = c := by
      have h1 : s₂.code? g.method = U.code? g.method := by
        rw [State.code?_eq, State.code?_eq, hW'.alike.method?]
      exact Option.some.inj (hc₂.symm.trans (h1.trans h.code))
    subst hcc
    have hlen : len₂ = len := by rw [hdg] at hd₂; cases hd₂; rfl
    subst hlen
    have hs₂ : s₂ = (({ U with heap := s₂.heap, slotsUsed := s₂.slotsUsed } : State).setVm s₂.vm).setTop { g with pc := g.pc + len₂, stack := v.toList ++ g.stack } := by
      refine e3.trans ?_
      rw [hf₂, State.calling_eq h.top, State.setFrames_setFrames, State.setTop_of_frames _ hr', hr]
      rfl
    have hsame : U.sameButNew ({ U with heap := s₂.heap, slotsUsed := s₂.slotsUsed } : State) L mc ms := by
      refine ⟨?_, q2, q3, q4, q5, q6⟩
      obtain ⟨t, ht, -⟩ := State.frames_cons hr
      show ({ U with heap := s₂.heap, slotsUsed := s₂.slotsUsed } : State) = { U.setFrames U.frames with heap := s₂.heap, slotsUsed := s₂.slotsUsed }
      rw [State.setFrames_self ht]
    subst hg
    refine Or.inl ⟨v, ⟨(({ U with heap := s₂.heap, slotsUsed := s₂.slotsUsed } : State).setVm s₂.vm), Ls ++ L, c0 + mc, s0 + ms⟩,
      ⟨X.admits, X.cas, X.clock, X.frames, X.room, X.hears, X.method, X.code, (X.here.setHeapUsed s₂.heap s₂.slotsUsed).setVm hW'.alike, X.tail, State.WarmedH.trans X.warmed hW', X.limits, X.bytes, X.same.trans (hsame.setVm s.vm)⟩,
      ⟨g, mk, s₂, L, rfl, rfl, hqc, rfl, hL, rfl, rfl⟩, ?_⟩
    show Steps p.tables e below _ ((({ U with heap := s₂.heap, slotsUsed := s₂.slotsUsed } : State).setVm s₂.vm).setTop { g with pc := g.pc + len₂, stack := v.toList ++ g.stack })
    rw [← hs₂]
    exact hsteps
  · obtain ⟨e2, q2, q3, q4, q5, q6⟩ := id hsm
    have e3 : s₂ = ({ (U.calling g mk a).setFrames s₂.frames with heap := s₂.heap, slotsUsed := s₂.slotsUsed } : State).setVm s₂.vm := by
      have : s₂ = ({ s₂ with vm := (U.calling g mk a).vm } : State).setVm s₂.vm := rfl
      rw [e2] at this
      exact this
    have hf₂ : s₂.frames = .throwing q :: .java g :: U.frames.tail := hend
    have hW' : U.WarmedH s₂.vm := hW₂
    have hs₂ : s₂ = ((({ U with heap := s₂.heap, slotsUsed := s₂.slotsUsed } : State).setVm s₂.vm).setTop g).pushFrame (.throwing q) := by
      refine e3.trans ?_
      rw [hf₂, State.calling_eq h.top, State.setFrames_setFrames, State.pushFrame, State.frames_setTop _ hr', State.setTop_of_frames _ hr', State.setFrames_setFrames, hr]
      rfl
    have hsame : U.sameButNew ({ U with heap := s₂.heap, slotsUsed := s₂.slotsUsed } : State) L mc ms := by
      refine ⟨?_, q2, q3, q4, q5, q6⟩
      obtain ⟨t, ht, -⟩ := State.frames_cons hr
      show ({ U with heap := s₂.heap, slotsUsed := s₂.slotsUsed } : State) = { U.setFrames U.frames with heap := s₂.heap, slotsUsed := s₂.slotsUsed }
      rw [State.setFrames_self ht]
    subst hg
    refine Or.inr ⟨q, ⟨(({ U with heap := s₂.heap, slotsUsed := s₂.slotsUsed } : State).setVm s₂.vm), Ls ++ L, c0 + mc, s0 + ms⟩,
      ⟨X.admits, X.cas, X.clock, X.frames, X.room, X.hears, X.method, X.code, (X.here.setHeapUsed s₂.heap s₂.slotsUsed).setVm hW'.alike, X.tail, State.WarmedH.trans X.warmed hW', X.limits, X.bytes, X.same.trans (hsame.setVm s.vm)⟩,
      ⟨g, mk, s₂, L, E, ce, rfl, rfl, hx, hce, hcv, hcl, rfl, hL, rfl, rfl⟩, ?_⟩
    show Steps p.tables e below _ (((({ U with heap := s₂.heap, slotsUsed := s₂.slotsUsed } : State).setVm s₂.vm).setTop g).pushFrame (.throwing q))
    rw [← hs₂]
    exact hsteps
end Payer
section Calls
variable {p : Program} {l : Launch} {e : Env} {R : Room} {s : State} {m : MethodId} {args : Array Value} {below : List Frame} {meth : Method} {c : Code} {T : State} {locs : List Loc} {cells slots : Nat}
theorem vx_callV (X : Stand p l e R s m args below meth c T locs cells slots) (hexec : p.tables.exec = Jvm.exec) {own C : String} {index : Nat} {y : MethodName} {bytes : ByteArray} {maxL : Nat} {ret : Option FieldType}
    (hown : s.vm.findClass own = some m.cls) (hlink : (Cond.methodLink own index y).before args s = true) (hinst : (Cond.instanceMethod y).before args s = true) (hsel : (Cond.selects C y y).before args s = true)
    (hcode : (Cond.code y bytes maxL ret).before args s = true) (hy : y.cls ≠ "java/lang/invoke/MethodHandle" ∧ y.cls ≠ "java/lang/invoke/VarHandle")
    {W9 : Nat} {Pre : Pt → Array Value → Prop} {Post : Pt → Array Value → Option Value → Pt → Prop} {PostX : Pt → Array Value → Addr → Pt → Prop} (hK : vx_Back l R p e below s args y 3 W9 Pre Post PostX)
    {b : Addr} {cellB : Cell} (hcell : T.heap[b]? = some cellB) (hobj : cellB.vm.isStatics = false) (hcls : s.vm.findClass C = some cellB.cls)
    {g : JFrame} (hg : g.method = m) (hsize : g.locals.size = c.maxLocals) {argsL rest : List Value} (hlen : ∀ sig, parseMethodDescriptor y.desc = some sig → argsL.length = sig.parameters.length)
    (hstack : g.stack = argsL.reverse ++ .ref b :: rest) (hW : 2 * g.monitorRoom + (rest.map fun v => v.category).sum ≤ W9) (hdg : decode c.code g.pc = .ok (.invokevirtual index, 3))
    (hpre : ∀ vm₁, s.WarmedH vm₁ → Pre ⟨T.setVm vm₁, locs, cells, slots⟩ (Value.ref b :: argsL).toArray) :
    (∃ (v : Option Value) (vm₁ : Vm) (B : Pt), s.WarmedH vm₁ ∧ Stand p l e R s m args below meth c B.U B.locs B.cells B.slots ∧ Post ⟨T.setVm vm₁, locs, cells, slots⟩ (Value.ref b :: argsL).toArray v B ∧
      ∀ target, Steps p.tables e below (B.U.setTop { g with pc := g.pc + 3, stack := v.toList ++ rest }) target → Steps p.tables e below (T.setTop g) target) ∨
    (∃ (q : Addr) (vm₁ : Vm) (B : Pt), s.WarmedH vm₁ ∧ Stand p l e R s m args below meth c B.U B.locs B.cells B.slots ∧ PostX ⟨T.setVm vm₁, locs, cells, slots⟩ (Value.ref b :: argsL).toArray q B ∧
      Steps p.tables e below (T.setTop g) ((B.U.setTop { g with stack := rest }).pushFrame (.throwing q))) := by
  obtain ⟨mk, methM, hnamed, hmethM, hstM, habM⟩ := Cond.instanceMethod_spec hinst
  obtain ⟨methM', cM, hmethM', -, -, -, -, -, -, hsigM⟩ := Cond.code_spec hnamed hcode
  cases hmethM.symm.trans hmethM'
  obtain ⟨c2, r2, m2, q1, q2, q3, q4, kP, hkP, hkPi⟩ := Cond.selects_spec hsel
  cases hcls.symm.trans q1
  cases (State.methodFound?_of_named hnamed hy).symm.trans q2
  cases hnamed.symm.trans q3
  have hselP : selectMethod e.platform s.vm cellB.cls mk = .method mk := by rw [Launch.admits_selectMethod X.admits]; exact q4
  obtain ⟨vm₁, X₁, hstep₁⟩ := X.invokevirtual hexec hown hlink hnamed hmethM hstM hkP hkPi hy (a := b) (cell := cellB) hcell
    (fun z h => by rw [h] at hobj; cases hobj) hselP hmethM habM hkP hkPi (g := g) hg (argsL := argsL) (rest := rest) (hlen _ hsigM) hstack hdg
  rcases hK m meth c ⟨T.setVm vm₁, locs, cells, slots⟩ { g with stack := rest } (.invokevirtual index) mk (Value.ref b :: argsL).toArray X₁ hg hsize hdg hW (X₁.named hnamed) (hpre vm₁ X₁.warmed) with ⟨v, B, X', hpost, hsteps⟩ | ⟨q, B, X', hpost, hsteps⟩
  · exact Or.inl ⟨v, vm₁, B, X₁.warmed, X', hpost, fun target h => hstep₁ _ fun acts => by rw [doInvoke_state]; exact hsteps.trans h⟩
  · exact Or.inr ⟨q, vm₁, B, X₁.warmed, X', hpost, hstep₁ _ fun acts => by rw [doInvoke_state]; exact hsteps⟩
theorem vx_callS (X : Stand p l e R s m args below meth c T locs cells slots) (hexec : p.tables.exec = Jvm.exec) {own : String} {index : Nat} {y : MethodName} {bytes : ByteArray} {maxL : Nat} {ret : Option FieldType}
    (hown : s.vm.findClass own = some m.cls) (hlink : (Cond.methodLink own index y).before args s = true) (hstat : (Cond.static y).before args s = true) (hinit : (Cond.initialized y.cls).before args s = true)
    (hcode : (Cond.code y bytes maxL ret).before args s = true) (hy : y.cls ≠ "java/lang/invoke/MethodHandle" ∧ y.cls ≠ "java/lang/invoke/VarHandle")
    {W9 : Nat} {Pre : Pt → Array Value → Prop} {Post : Pt → Array Value → Option Value → Pt → Prop} {PostX : Pt → Array Value → Addr → Pt → Prop} (hK : vx_Back l R p e below s args y 3 W9 Pre Post PostX)
    {g : JFrame} (hg : g.method = m) (hsize : g.locals.size = c.maxLocals) {argsL rest : List Value} (hlen : ∀ sig, parseMethodDescriptor y.desc = some sig → argsL.length = sig.parameters.length)
    (hstack : g.stack = argsL.reverse ++ rest) (hW : 2 * g.monitorRoom + (rest.map fun v => v.category).sum ≤ W9) (hdg : decode c.code g.pc = .ok (.invokestatic index, 3))
    (hpre : ∀ vm₁, s.WarmedH vm₁ → Pre ⟨T.setVm vm₁, locs, cells, slots⟩ argsL.toArray) :
    (∃ (v : Option Value) (vm₁ : Vm) (B : Pt), s.WarmedH vm₁ ∧ Stand p l e R s m args below meth c B.U B.locs B.cells B.slots ∧ Post ⟨T.setVm vm₁, locs, cells, slots⟩ argsL.toArray v B ∧
      ∀ target, Steps p.tables e below (B.U.setTop { g with pc := g.pc + 3, stack := v.toList ++ rest }) target → Steps p.tables e below (T.setTop g) target) ∨
    (∃ (q : Addr) (vm₁ : Vm) (B : Pt), s.WarmedH vm₁ ∧ Stand p l e R s m args below meth c B.U B.locs B.cells B.slots ∧ PostX ⟨T.setVm vm₁, locs, cells, slots⟩ argsL.toArray q B ∧
      Steps p.tables e below (T.setTop g) ((B.U.setTop { g with stack := rest }).pushFrame (.throwing q))) := by
  obtain ⟨mk, hnamed⟩ := Cond.code_named hcode
  obtain ⟨methM, cM, hmethM, -, -, -, -, -, -, hsigM⟩ := Cond.code_spec hnamed hcode
  have hstatic : methM.isStatic = true := Cond.static_spec hnamed hmethM hstat
  obtain ⟨kP, hkP, -⟩ := className_of_methodNamed hnamed
  have hinitP : kP.init = .initialized := Cond.initialized_spec (findClass_of_methodNamed hnamed) hkP hinit
  obtain ⟨vm₁, X₁, hstep₁⟩ := X.invokestatic hexec hown hlink hnamed hmethM hstatic hkP hinitP hy (g := g) hg (argsL := argsL) (rest := rest) (hlen _ hsigM) hstack hdg
  rcases hK m meth c ⟨T.setVm vm₁, locs, cells, slots⟩ { g with stack := rest } (.invokestatic index) mk argsL.toArray X₁ hg hsize hdg hW (X₁.named hnamed) (hpre vm₁ X₁.warmed) with ⟨v, B, X', hpost, hsteps⟩ | ⟨q, B, X', hpost, hsteps⟩
  · exact Or.inl ⟨v, vm₁, B, X₁.warmed, X', hpost, fun target h => hstep₁ _ fun acts => by rw [doInvoke_state]; exact hsteps.trans h⟩
  · exact Or.inr ⟨q, vm₁, B, X₁.warmed, X', hpost, hstep₁ _ fun acts => by rw [doInvoke_state]; exact hsteps⟩
end Calls
theorem vx_cls {s : State} {T : State} {vm₁ : Vm} {E : String} {k : ClassId} (hW : s.WarmedH vm₁) (h : (T.setVm vm₁).vm.findClass E = some k) : s.vm.findClass E = some k := by
  have h1 : vm₁.findClass E = some k := h
  rw [hW.alike.findClass] at h1
  exact h1
/-- the method's frame g, with q thrown over it -/
def vx_W (p : Program) (l : Launch) (e : Env) (R : Room) (s : State) (m : MethodId) (args : Array Value) (below : List Frame) (meth : Method) (c : Code) (H : Heap) (locs : List Loc) (cells slots : Nat) (Q : State → Prop) (g : JFrame) (q : Addr) : Prop :=
  ∀ T : State, T.heap = H → Stand p l e R s m args below meth c T locs cells slots → ∃ t, Steps p.tables e below ((T.setTop g).pushFrame (.throwing q)) t ∧ Q t
def vx_Run (p : Program) (l : Launch) (e : Env) (R : Room) (s : State) (m : MethodId) (args : Array Value) (below : List Frame) (meth : Method) (c : Code) (H : Heap) (locs : List Loc) (cells slots mc ms : Nat) (g : JFrame) (rest : List Value) (Qa : State → Outcome → State → Prop) (XC : String → State → State → Prop) (free : Addr → Prop) : Prop :=
  ∀ T : State, T.heap = H → Stand p l e R s m args below meth c T locs cells slots →
    (∃ (v : Option Value) (st₀ t T' : State) (L : List Loc), st₀.heap = H ∧ Stand p l e R s m args below meth c T' (locs ++ L) (cells + mc) (slots + ms) ∧ (∀ q ∈ L, free q.base) ∧ T'.heap = t.heap ∧ T'.vm = t.vm ∧ Qa st₀ (.returned v) t ∧
      Goes p e below T g T' { g with pc := g.pc + 3, stack := v.toList ++ rest }) ∨
    (∃ (q : Addr) (st₀ t T' : State) (L : List Loc) (E : String) (ce : Cell), st₀.heap = H ∧ Stand p l e R s m args below meth c T' (locs ++ L) (cells + mc) (slots + ms) ∧ (∀ z ∈ L, free z.base) ∧ T'.heap = t.heap ∧ T'.vm = t.vm ∧ XC E st₀ t ∧ t.heap[q]? = some ce ∧ ce.vm = .none ∧ s.vm.findClass E = some ce.cls ∧
      Steps p.tables e below (T.setTop g) ((T'.setTop { g with stack := rest }).pushFrame (.throwing q)))
def vx_X {S : Type} (px : S → Prop) (B : String → S → State → Prop) (A : Nat → Prop) : String → State → State → Prop := fun E st t => ∃ u : S, px u ∧ B E u t ∧ va_F A st t
section Runs
variable {p : Program} {l : Launch} {e : Env} {R : Room} {s : State} {m : MethodId} {args : Array Value} {below : List Frame} {meth : Method} {c : Code} {H : Heap} {locs : List Loc} {cells slots : Nat}
variable {y : MethodName} {bytes cc : ByteArray} {maxL nL mc ms n index : Nat} {ret : Option FieldType} {ws : List Cond} {rm : Room} {Pc : Array Value → State → Prop} {Qc : Array Value → State → Outcome → State → Prop} {XC : String → State → State → Prop} {free : Addr → Prop} {Ts : List Cond} {own C : String} {b : Addr} {As rest : List Value} {g : JFrame}
theorem vx_callBack (cb : CallB R s args own index y bytes maxL ret ws rm mc ms n) (hM : vx_Met l y ws rm Pc Qc XC mc ms free) (hbl : FrameBlind Pc) : vx_Back l R p e below s args y 3 8 (PreOf R mc ms Pc) (PostOf Qc mc ms free) (vx_Post XC mc ms free) := by
  obtain ⟨hrc, hrs, hfr, hlo, hws, hcw, -, hini, -⟩ := cb
  exact vx_back (bytes := bytes) (maxL := maxL) (ret := ret) hM hbl hrc hrs hfr hlo hws hcw (fun a' U hW => word_at hW (Or.inl (by first | rfl | simp [Cond.onTables, Cond.keeps, Cond.steady])) hini)
theorem vx_runV (S : CallFix p m c cc nL s args Ts own) (hM : vx_Met l y ws rm Pc Qc XC mc ms free) (cw : CallW R s args own C index y bytes maxL ret ws rm mc ms n) (hp : PreV s H C b Pc As)
    (hg : g.method = m) (hn : As.length = n) (hsize : g.locals.size = nL) (hstack : g.stack = As.reverse ++ .ref b :: rest) (hW : 2 * g.monitorRoom + (rest.map fun v => v.category).sum ≤ 8) (hdg : decode cc g.pc = .ok (.invokevirtual index, 3)) (hf : cells + mc ≤ R.cells ∧ slots + ms ≤ R.slots) :
    vx_Run p l e R s m args below meth c H locs cells slots mc ms g rest (Qc (Value.ref b :: As).toArray) XC free := by
  have hK : vx_Back l R p e below s args y 3 8 (PreOf R mc ms Pc) (PostOf Qc mc ms free) (vx_Post XC mc ms free) := vx_callBack cw.1 hM hp.1
  obtain ⟨⟨-, -, -, -, -, -, hcode, -, hy, hlen, hl⟩, hin, hse⟩ := cw
  obtain ⟨hx, hb, hml, ho, -⟩ := S
  obtain ⟨-, ⟨cellB, hcB, hoB, hclB⟩, hPc⟩ := hp
  intro T hT X
  rcases vx_callV X hx (C := C) (bytes := bytes) (maxL := maxL) (ret := ret) ho hl hin hse hcode hy hK (by rw [hT]; exact hcB) hoB hclB hg (hsize.trans hml.symm) (argsL := As) (rest := rest) (fun sig h => hn.trans (hlen sig h)) hstack hW (by rw [hb]; exact hdg)
    (fun vm₁ hW₁ => ⟨hf.1, hf.2, hPc (T.setVm vm₁) hT hW₁⟩) with ⟨v, vm₁, ⟨U', l2, c2, s2⟩, hW₁, X', ⟨g', mk, t, L, e1, e2, hq, h1, hL, h2, h3⟩, st⟩ | ⟨q, vm₁, ⟨U', l2, c2, s2⟩, hW₁, X', ⟨g', mk, t, L, E, ce, e1, e2, hq, hce, hcv, hcl, h1, hL, h2, h3⟩, st⟩
  · dsimp only [Pt.U, Pt.locs, Pt.cells, Pt.slots] at X' e1 e2 h1 h2 h3 st
    subst h1; subst h2; subst h3
    exact Or.inl ⟨v, (T.setVm vm₁).calling g' mk (Value.ref b :: As).toArray, t, U', L, hT, X', hL, e1, e2, hq, st⟩
  · dsimp only [Pt.U, Pt.locs, Pt.cells, Pt.slots] at X' e1 e2 h1 h2 h3 st hcl
    subst h1; subst h2; subst h3
    exact Or.inr ⟨q, (T.setVm vm₁).calling g' mk (Value.ref b :: As).toArray, t, U', L, E, ce, hT, X', hL, e1, e2, hq, hce, hcv, vx_cls hW₁ hcl, st⟩
theorem vx_runS (S : CallFix p m c cc nL s args Ts own) (hM : vx_Met l y ws rm Pc Qc XC mc ms free) (cw : CallB R s args own index y bytes maxL ret ws rm mc ms n ∧ (Cond.static y).before args s = true) (hp : PreS s H Pc As)
    (hg : g.method = m) (hn : As.length = n) (hsize : g.locals.size = nL) (hstack : g.stack = As.reverse ++ rest) (hW : 2 * g.monitorRoom + (rest.map fun v => v.category).sum ≤ 8) (hdg : decode cc g.pc = .ok (.invokestatic index, 3)) (hf : cells + mc ≤ R.cells ∧ slots + ms ≤ R.slots) :
    vx_Run p l e R s m args below meth c H locs cells slots mc ms g rest (Qc As.toArray) XC free := by
  have hK : vx_Back l R p e below s args y 3 8 (PreOf R mc ms Pc) (PostOf Qc mc ms free) (vx_Post XC mc ms free) := vx_callBack cw.1 hM hp.1
  obtain ⟨⟨-, -, -, -, -, -, hcode, hini, hy, hlen, hl⟩, hstt⟩ := cw
  obtain ⟨hx, hb, hml, ho, -⟩ := S
  intro T hT X
  rcases vx_callS X hx (bytes := bytes) (maxL := maxL) (ret := ret) ho hl hstt hini hcode hy hK hg (hsize.trans hml.symm) (argsL := As) (rest := rest) (fun sig h => hn.trans (hlen sig h)) hstack hW (by rw [hb]; exact hdg)
    (fun vm₁ hW₁ => ⟨hf.1, hf.2, hp.2 (T.setVm vm₁) hT hW₁⟩) with ⟨v, vm₁, ⟨U', l2, c2, s2⟩, hW₁, X', ⟨g', mk, t, L, e1, e2, hq, h1, hL, h2, h3⟩, st⟩ | ⟨q, vm₁, ⟨U', l2, c2, s2⟩, hW₁, X', ⟨g', mk, t, L, E, ce, e1, e2, hq, hce, hcv, hcl, h1, hL, h2, h3⟩, st⟩
  · dsimp only [Pt.U, Pt.locs, Pt.cells, Pt.slots] at X' e1 e2 h1 h2 h3 st
    subst h1; subst h2; subst h3
    exact Or.inl ⟨v, (T.setVm vm₁).calling g' mk As.toArray, t, U', L, hT, X', hL, e1, e2, hq, st⟩
  · dsimp only [Pt.U, Pt.locs, Pt.cells, Pt.slots] at X' e1 e2 h1 h2 h3 st hcl
    subst h1; subst h2; subst h3
    exact Or.inr ⟨q, (T.setVm vm₁).calling g' mk As.toArray, t, U', L, E, ce, hT, X', hL, e1, e2, hq, hce, hcv, vx_cls hW₁ hcl, st⟩
end Runs
section Rows
variable {p : Program} {l : Launch} {e : Env} {R : Room} {s : State} {m : MethodId} {args : Array Value} {below : List Frame} {meth : Method} {c : Code} {H : Heap} {locs : List Loc} {cells slots : Nat} {Q : State → Prop}
variable {mc ms : Nat} {free : Addr → Prop} {A0 A1 : Nat → Prop} {H0 : Heap} {a : Array Value} {pc : Nat} {ls : Array Slot} {st0 rest : List Value}
theorem vx_keep {st₀ t T' : State} {L : List Loc} (h0 : st₀.heap = H) (e1 : T'.heap = t.heap) (hS : va_S A0 H0 H locs) (hA : ∀ q, q < H.size → A1 q → A0 q) (hf : ∀ q, free q → A0 q) (hL : ∀ q ∈ L, free q.base) (hF : va_F A1 st₀ t) :
    H.size ≤ T'.heap.size ∧ (∀ q : Nat, q < H.size → ¬ A1 q → T'.heap[q]? = H[q]?) ∧ va_S A0 H0 T'.heap (locs ++ L) := by
  obtain ⟨hz, hk⟩ := hF
  rw [h0] at hz hk
  exact ⟨by rw [e1]; exact hz, fun q h1 h2 => by rw [e1]; exact hk q h1 h2,
    ⟨Nat.le_trans hS.1 (by rw [e1]; exact hz), fun q h1 h2 => by rw [e1, hk q (Nat.lt_of_lt_of_le h1 hS.1) (fun z => h2 (hA q (Nat.lt_of_lt_of_le h1 hS.1) z))]; exact hS.2.1 q h1 h2, fun q hq => by
      rcases List.mem_append.mp hq with h | h
      · exact hS.2.2 q h
      · exact hf _ (hL q h)⟩⟩
theorem vx_calli {S SX : Type} {post : Int32 → S → Prop} {px : SX → Prop} {B : S → State → Prop} {BX : String → SX → State → Prop} {AX : Nat → Prop} (hr : vx_Run p l e R s m args below meth c H locs cells slots mc ms (F0 m pc ls st0) rest (va_Qi post B A1 a) (vx_X px BX AX) free) (hS : va_S A0 H0 H locs) (hA : ∀ q, q < H.size → A1 q → A0 q) (hf : ∀ q, free q → A0 q) (hAX : ∀ q, q < H.size → AX q → A0 q)
    (kx : ∀ (E : String) (ce : Cell) (q9 : Addr) (u : SX) (t : State) (H1 : Heap) (locs1 : List Loc), t.heap = H1 → s.vm.Alike t.vm → px u → BX E u t → H.size ≤ H1.size → (∀ q : Nat, q < H.size → ¬ AX q → H1[q]? = H[q]?) → va_S A0 H0 H1 locs1 → H1[q9]? = some ce → ce.vm = .none → s.vm.findClass E = some ce.cls → vx_W p l e R s m args below meth c H1 locs1 (cells + mc) (slots + ms) Q (F0 m pc ls rest) q9)
    (kk : ∀ (r : Int32) (u : S) (t : State) (H1 : Heap) (locs1 : List Loc), t.heap = H1 → s.vm.Alike t.vm → post r u → B u t → H.size ≤ H1.size → (∀ q : Nat, q < H.size → ¬ A1 q → H1[q]? = H[q]?) → va_S A0 H0 H1 locs1 → W p l e R s m args below meth c H1 locs1 (cells + mc) (slots + ms) Q (F0 m (pc + 3) ls (.int r :: rest))) : W p l e R s m args below meth c H locs cells slots Q (F0 m pc ls st0) := by
  intro T hT X
  rcases hr T hT X with ⟨v, st₀, t, T', L, h0, X', hL, e1, e2, ⟨⟨r, u, hv, hp, hb⟩, hF⟩, st⟩ | ⟨q, st₀, t, T', L, E, ce, h0, X', hL, e1, e2, ⟨u, hp, hb, hF⟩, hce, hcv, hcl, st⟩
  · cases hv
    obtain ⟨k1, k2, k3⟩ := vx_keep h0 e1 hS hA hf hL hF
    obtain ⟨t2, a1, b1⟩ := kk r u t T'.heap (locs ++ L) e1.symm (by rw [← e2]; exact X'.warmed.alike) hp hb k1 k2 k3 T' rfl X'
    exact ⟨t2, st t2 a1, b1⟩
  · obtain ⟨k1, k2, k3⟩ := vx_keep h0 e1 hS hAX hf hL hF
    obtain ⟨t2, a1, b1⟩ := kx E ce q u t T'.heap (locs ++ L) e1.symm (by rw [← e2]; exact X'.warmed.alike) hp hb k1 k2 k3 (by rw [e1]; exact hce) hcv hcl T' rfl X'
    exact ⟨t2, st.trans a1, b1⟩
theorem vx_calll {S SX : Type} {post : Int64 → S → Prop} {px : SX → Prop} {B : S → State → Prop} {BX : String → SX → State → Prop} {AX : Nat → Prop} (hr : vx_Run p l e R s m args below meth c H locs cells slots mc ms (F0 m pc ls st0) rest (va_Ql post B A1 a) (vx_X px BX AX) free) (hS : va_S A0 H0 H locs) (hA : ∀ q, q < H.size → A1 q → A0 q) (hf : ∀ q, free q → A0 q) (hAX : ∀ q, q < H.size → AX q → A0 q)
    (kx : ∀ (E : String) (ce : Cell) (q9 : Addr) (u : SX) (t : State) (H1 : Heap) (locs1 : List Loc), t.heap = H1 → s.vm.Alike t.vm → px u → BX E u t → H.size ≤ H1.size → (∀ q : Nat, q < H.size → ¬ AX q → H1[q]? = H[q]?) → va_S A0 H0 H1 locs1 → H1[q9]? = some ce → ce.vm = .none → s.vm.findClass E = some ce.cls → vx_W p l e R s m args below meth c H1 locs1 (cells + mc) (slots + ms) Q (F0 m pc ls rest) q9)
    (kk : ∀ (r : Int64) (u : S) (t : State) (H1 : Heap) (locs1 : List Loc), t.heap = H1 → s.vm.Alike t.vm → post r u → B u t → H.size ≤ H1.size → (∀ q : Nat, q < H.size → ¬ A1 q → H1[q]? = H[q]?) → va_S A0 H0 H1 locs1 → W p l e R s m args below meth c H1 locs1 (cells + mc) (slots + ms) Q (F0 m (pc + 3) ls (.long r :: rest))) : W p l e R s m args below meth c H locs cells slots Q (F0 m pc ls st0) := by
  intro T hT X
  rcases hr T hT X with ⟨v, st₀, t, T', L, h0, X', hL, e1, e2, ⟨⟨r, u, hv, hp, hb⟩, hF⟩, st⟩ | ⟨q, st₀, t, T', L, E, ce, h0, X', hL, e1, e2, ⟨u, hp, hb, hF⟩, hce, hcv, hcl, st⟩
  · cases hv
    obtain ⟨k1, k2, k3⟩ := vx_keep h0 e1 hS hA hf hL hF
    obtain ⟨t2, a1, b1⟩ := kk r u t T'.heap (locs ++ L) e1.symm (by rw [← e2]; exact X'.warmed.alike) hp hb k1 k2 k3 T' rfl X'
    exact ⟨t2, st t2 a1, b1⟩
  · obtain ⟨k1, k2, k3⟩ := vx_keep h0 e1 hS hAX hf hL hF
    obtain ⟨t2, a1, b1⟩ := kx E ce q u t T'.heap (locs ++ L) e1.symm (by rw [← e2]; exact X'.warmed.alike) hp hb k1 k2 k3 (by rw [e1]; exact hce) hcv hcl T' rfl X'
    exact ⟨t2, st.trans a1, b1⟩
theorem vx_callf {S SX : Type} {post : UInt32 → S → Prop} {px : SX → Prop} {B : S → State → Prop} {BX : String → SX → State → Prop} {AX : Nat → Prop} (hr : vx_Run p l e R s m args below meth c H locs cells slots mc ms (F0 m pc ls st0) rest (va_Qf post B A1 a) (vx_X px BX AX) free) (hS : va_S A0 H0 H locs) (hA : ∀ q, q < H.size → A1 q → A0 q) (hf : ∀ q, free q → A0 q) (hAX : ∀ q, q < H.size → AX q → A0 q)
    (kx : ∀ (E : String) (ce : Cell) (q9 : Addr) (u : SX) (t : State) (H1 : Heap) (locs1 : List Loc), t.heap = H1 → s.vm.Alike t.vm → px u → BX E u t → H.size ≤ H1.size → (∀ q : Nat, q < H.size → ¬ AX q → H1[q]? = H[q]?) → va_S A0 H0 H1 locs1 → H1[q9]? = some ce → ce.vm = .none → s.vm.findClass E = some ce.cls → vx_W p l e R s m args below meth c H1 locs1 (cells + mc) (slots + ms) Q (F0 m pc ls rest) q9)
    (kk : ∀ (r : UInt32) (u : S) (t : State) (H1 : Heap) (locs1 : List Loc), t.heap = H1 → s.vm.Alike t.vm → post r u → B u t → H.size ≤ H1.size → (∀ q : Nat, q < H.size → ¬ A1 q → H1[q]? = H[q]?) → va_S A0 H0 H1 locs1 → W p l e R s m args below meth c H1 locs1 (cells + mc) (slots + ms) Q (F0 m (pc + 3) ls (.float r :: rest))) : W p l e R s m args below meth c H locs cells slots Q (F0 m pc ls st0) := by
  intro T hT X
  rcases hr T hT X with ⟨v, st₀, t, T', L, h0, X', hL, e1, e2, ⟨⟨r, u, hv, hp, hb⟩, hF⟩, st⟩ | ⟨q, st₀, t, T', L, E, ce, h0, X', hL, e1, e2, ⟨u, hp, hb, hF⟩, hce, hcv, hcl, st⟩
  · cases hv
    obtain ⟨k1, k2, k3⟩ := vx_keep h0 e1 hS hA hf hL hF
    obtain ⟨t2, a1, b1⟩ := kk r u t T'.heap (locs ++ L) e1.symm (by rw [← e2]; exact X'.warmed.alike) hp hb k1 k2 k3 T' rfl X'
    exact ⟨t2, st t2 a1, b1⟩
  · obtain ⟨k1, k2, k3⟩ := vx_keep h0 e1 hS hAX hf hL hF
    obtain ⟨t2, a1, b1⟩ := kx E ce q u t T'.heap (locs ++ L) e1.symm (by rw [← e2]; exact X'.warmed.alike) hp hb k1 k2 k3 (by rw [e1]; exact hce) hcv hcl T' rfl X'
    exact ⟨t2, st.trans a1, b1⟩
theorem vx_calld {S SX : Type} {post : UInt64 → S → Prop} {px : SX → Prop} {B : S → State → Prop} {BX : String → SX → State → Prop} {AX : Nat → Prop} (hr : vx_Run p l e R s m args below meth c H locs cells slots mc ms (F0 m pc ls st0) rest (va_Qd post B A1 a) (vx_X px BX AX) free) (hS : va_S A0 H0 H locs) (hA : ∀ q, q < H.size → A1 q → A0 q) (hf : ∀ q, free q → A0 q) (hAX : ∀ q, q < H.size → AX q → A0 q)
    (kx : ∀ (E : String) (ce : Cell) (q9 : Addr) (u : SX) (t : State) (H1 : Heap) (locs1 : List Loc), t.heap = H1 → s.vm.Alike t.vm → px u → BX E u t → H.size ≤ H1.size → (∀ q : Nat, q < H.size → ¬ AX q → H1[q]? = H[q]?) → va_S A0 H0 H1 locs1 → H1[q9]? = some ce → ce.vm = .none → s.vm.findClass E = some ce.cls → vx_W p l e R s m args below meth c H1 locs1 (cells + mc) (slots + ms) Q (F0 m pc ls rest) q9)
    (kk : ∀ (r : UInt64) (u : S) (t : State) (H1 : Heap) (locs1 : List Loc), t.heap = H1 → s.vm.Alike t.vm → post r u → B u t → H.size ≤ H1.size → (∀ q : Nat, q < H.size → ¬ A1 q → H1[q]? = H[q]?) → va_S A0 H0 H1 locs1 → W p l e R s m args below meth c H1 locs1 (cells + mc) (slots + ms) Q (F0 m (pc + 3) ls (.double r :: rest))) : W p l e R s m args below meth c H locs cells slots Q (F0 m pc ls st0) := by
  intro T hT X
  rcases hr T hT X with ⟨v, st₀, t, T', L, h0, X', hL, e1, e2, ⟨⟨r, u, hv, hp, hb⟩, hF⟩, st⟩ | ⟨q, st₀, t, T', L, E, ce, h0, X', hL, e1, e2, ⟨u, hp, hb, hF⟩, hce, hcv, hcl, st⟩
  · cases hv
    obtain ⟨k1, k2, k3⟩ := vx_keep h0 e1 hS hA hf hL hF
    obtain ⟨t2, a1, b1⟩ := kk r u t T'.heap (locs ++ L) e1.symm (by rw [← e2]; exact X'.warmed.alike) hp hb k1 k2 k3 T' rfl X'
    exact ⟨t2, st t2 a1, b1⟩
  · obtain ⟨k1, k2, k3⟩ := vx_keep h0 e1 hS hAX hf hL hF
    obtain ⟨t2, a1, b1⟩ := kx E ce q u t T'.heap (locs ++ L) e1.symm (by rw [← e2]; exact X'.warmed.alike) hp hb k1 k2 k3 (by rw [e1]; exact hce) hcv hcl T' rfl X'
    exact ⟨t2, st.trans a1, b1⟩
theorem vx_callv {S SX : Type} {post : S → Prop} {px : SX → Prop} {B : S → State → Prop} {BX : String → SX → State → Prop} {AX : Nat → Prop} (hr : vx_Run p l e R s m args below meth c H locs cells slots mc ms (F0 m pc ls st0) rest (va_Qv post B A1 a) (vx_X px BX AX) free) (hS : va_S A0 H0 H locs) (hA : ∀ q, q < H.size → A1 q → A0 q) (hf : ∀ q, free q → A0 q) (hAX : ∀ q, q < H.size → AX q → A0 q)
    (kx : ∀ (E : String) (ce : Cell) (q9 : Addr) (u : SX) (t : State) (H1 : Heap) (locs1 : List Loc), t.heap = H1 → s.vm.Alike t.vm → px u → BX E u t → H.size ≤ H1.size → (∀ q : Nat, q < H.size → ¬ AX q → H1[q]? = H[q]?) → va_S A0 H0 H1 locs1 → H1[q9]? = some ce → ce.vm = .none → s.vm.findClass E = some ce.cls → vx_W p l e R s m args below meth c H1 locs1 (cells + mc) (slots + ms) Q (F0 m pc ls rest) q9)
    (kk : ∀ (u : S) (t : State) (H1 : Heap) (locs1 : List Loc), t.heap = H1 → s.vm.Alike t.vm → post u → B u t → H.size ≤ H1.size → (∀ q : Nat, q < H.size → ¬ A1 q → H1[q]? = H[q]?) → va_S A0 H0 H1 locs1 → W p l e R s m args below meth c H1 locs1 (cells + mc) (slots + ms) Q (F0 m (pc + 3) ls (rest))) : W p l e R s m args below meth c H locs cells slots Q (F0 m pc ls st0) := by
  intro T hT X
  rcases hr T hT X with ⟨v, st₀, t, T', L, h0, X', hL, e1, e2, ⟨⟨u, hv, hp, hb⟩, hF⟩, st⟩ | ⟨q, st₀, t, T', L, E, ce, h0, X', hL, e1, e2, ⟨u, hp, hb, hF⟩, hce, hcv, hcl, st⟩
  · cases hv
    obtain ⟨k1, k2, k3⟩ := vx_keep h0 e1 hS hA hf hL hF
    obtain ⟨t2, a1, b1⟩ := kk u t T'.heap (locs ++ L) e1.symm (by rw [← e2]; exact X'.warmed.alike) hp hb k1 k2 k3 T' rfl X'
    exact ⟨t2, st t2 a1, b1⟩
  · obtain ⟨k1, k2, k3⟩ := vx_keep h0 e1 hS hAX hf hL hF
    obtain ⟨t2, a1, b1⟩ := kx E ce q u t T'.heap (locs ++ L) e1.symm (by rw [← e2]; exact X'.warmed.alike) hp hb k1 k2 k3 (by rw [e1]; exact hce) hcv hcl T' rfl X'
    exact ⟨t2, st.trans a1, b1⟩
/-- caught by the row x of this method's table; the rows ahead don't take it -/
theorem vx_catch {own name : String} {E : String} {ce : Cell} {q : Addr} (hown : s.vm.findClass own = some m.cls) (pre : List ExceptionTableEntry) (x : ExceptionTableEntry) (suf : List ExceptionTableEntry) (hsplit : c.exceptionTable.toList = pre ++ x :: suf)
    (hpass : ∀ z ∈ pre, covers z pc = false ∨ (z.catchType ≠ 0 ∧ ∃ nm : String, (Cond.classLink own z.catchType nm).before args s = true ∧ va_Nc E nm s)) (hx : covers x pc = true) (h0 : x.catchType ≠ 0)
    (hlink : (Cond.classLink own x.catchType name).before args s = true) (hcast : (Cond.castable E name).before args s = true) (hcell : H[q]? = some ce) (hv : ce.vm = .none) (hcl : s.vm.findClass E = some ce.cls)
    (kk : W p l e R s m args below meth c H locs cells slots Q (F0 m x.handlerPc ls [.ref q])) : vx_W p l e R s m args below meth c H locs cells slots Q (F0 m pc ls rest) q := by
  intro T hT X
  have hpl : e.platform.magicAccessors = ({} : Platform).magicAccessors := by rw [X.admits.platform]
  obtain ⟨c3, c4, hc3, hc4, hasg⟩ := Cond.castable_spec hcast
  cases Option.some.inj (hc3.symm.trans hcl)
  obtain ⟨c5, hc5, hcl5⟩ := Cond.classLink_spec hown hlink e.platform hpl
  cases Option.some.inj (hc4.symm.trans hc5)
  obtain ⟨vm', X', st⟩ := X.thenCaughtThrough q (g := F0 m pc ls rest) rfl (Steps.refl _) (by rw [hT]; exact hcell) (by rw [hv]; rfl) (by obtain ⟨k9, h9, -⟩ := Vm.findClass_spec hcl; exact ⟨k9, h9⟩) pre x suf hsplit
    (fun z hz => by
      rcases hpass z hz with h | ⟨hz0, nm, hl1, hn1⟩
      · exact Or.inl h
      · obtain ⟨c6, hc6, hcl6⟩ := Cond.classLink_spec hown hl1 e.platform hpl
        obtain ⟨a8, b8, h1, h2, h3⟩ := hn1
        cases Option.some.inj (h1.symm.trans hcl)
        cases Option.some.inj (h2.symm.trans hc6)
        exact Or.inr ⟨hz0, _, hcl6, h3⟩) hx (Or.inr ⟨h0, c4, hcl5, hasg⟩)
  obtain ⟨t, a1, b1⟩ := kk (T.setVm vm') hT X'
  exact ⟨t, st.trans a1, b1⟩
end Rows
section Ends
variable {p : Program} {l : Launch} {e : Env} {R : Room} {s : State} {m : MethodId} {args : Array Value} {below : List Frame} {meth : Method} {c : Code} {H : Heap} {locs : List Loc} {cells slots : Nat} {Q : State → Prop}
variable {mc ms : Nat} {free : Addr → Prop} {A0 A1 : Nat → Prop} {H0 : Heap} {a : Array Value} {ls : Array Slot} {st0 rest : List Value}
variable {Qc : Array Value → State → Outcome → State → Prop} {XC : String → State → State → Prop}
/-- what a body that may throw owes at its end -/
def vx_MQ (below : List Frame) (Qc : Array Value → State → Outcome → State → Prop) (XC : String → State → State → Prop) (a : Array Value) (s : State) (mc ms : Nat) (free : Addr → Prop) : State → Prop := fun t =>
  ∃ o, t.status = .running ∧ Ended t below o ∧ vx_Q Qc XC mc ms free a s o t
theorem vx_ret {g : JFrame} {mc ms : Nat} (k : W p l e R s m args below meth c H locs cells slots (MQ below Qc args s mc ms free) g) : W p l e R s m args below meth c H locs cells slots (vx_MQ below Qc XC args s mc ms free) g := by
  intro T hT X
  obtain ⟨t, a1, o, b1, b2, b3, b4⟩ := k T hT X
  exact ⟨t, a1, o, b1, b2, Or.inl ⟨b3, b4⟩⟩
/-- not caught here: it goes on to the caller -/
theorem vx_widen {g : JFrame} {q : Addr} {k n : Nat} (h1 : cells ≤ k) (h2 : slots ≤ n) (kk : vx_W p l e R s m args below meth c H locs k n Q g q) : vx_W p l e R s m args below meth c H locs cells slots Q g q := fun T hT X => kk T hT (stand_widen X h1 h2)
theorem vx_out {pc : Nat} {E : String} {ce : Cell} {q : Addr} {mc ms : Nat} (hout : ∀ x ∈ c.exceptionTable.toList, covers x pc = false) (hlocks : meth.locks = false) (hcell : H[q]? = some ce) (hv : ce.vm = .none) (hcl : s.vm.findClass E = some ce.cls)
    (hx : ∀ t : State, t.heap = H → s.vm.Alike t.vm → XC E s t) (hf : ∀ z ∈ locs, free z.base) (hc : cells ≤ mc) (hs : slots ≤ ms) :
    vx_W p l e R s m args below meth c H locs cells slots (vx_MQ below Qc XC args s mc ms free) (F0 m pc ls rest) q := by
  intro T hT X
  obtain ⟨st1, hrun, hend, hW, hsm⟩ := X.leaveThrown q (g := F0 m pc ls rest) rfl rfl rfl hout hlocks
  have hcell9 : (T.setFrames (.throwing q :: below)).heap[q]? = some ce := by
    show T.heap[q]? = some ce
    rw [hT]; exact hcell
  exact ⟨_, st1, .threw q, hrun, hend, Or.inr ⟨q, rfl, E, ce, locs, hx _ hT hW.alike, hcell9, hv, hcl, hW, hsm.mono hc hs, hf⟩⟩
theorem vx_frame {U : State} {k n : Nat} (h : s.sameButNew ({ U with vm := s.vm } : State) locs k n) : s.heap.size ≤ U.heap.size ∧ ∀ q : Nat, q < s.heap.size → (∀ z ∈ locs, z.base ≠ q) → U.heap[q]? = s.heap[q]? := by
  obtain ⟨-, h2, -, -, -, h6⟩ := h
  refine ⟨h2, fun q hq hz => ?_⟩
  obtain ⟨c9, e1, e2, e3, e4⟩ := h6 q _ (Array.getElem?_eq_getElem hq)
  have hs : c9.slots = (s.heap[q]).slots := Array.ext_getElem? fun i => e4 i fun hm => hz _ hm rfl
  have h9 : c9 = s.heap[q] := by
    rw [hs] at e2
    exact e2
  have e5 : U.heap[q]? = some c9 := e1
  rw [e5, h9, Array.getElem?_eq_getElem hq]
/-- the words of a throw but the four that speak of the heap -/
def vx_no (w : Cond) : Bool := decide (w ≠ .isRef (.static Bundle.tN "UNASSIGNED_STACK" Bundle.steD)) && decide (w ≠ .isRef (.static Bundle.tN "SUPPRESSED_SENTINEL" Bundle.listD)) && decide (w ≠ .laysStatic Bundle.tN "UNASSIGNED_STACK" Bundle.steD) && decide (w ≠ .laysStatic Bundle.tN "SUPPRESSED_SENTINEL" Bundle.listD)
def vx_at0 (own : String) (ic : Nat) (X : String) (names : List String) : List Cond := (Bundle.ownAtoms0 own ic X names).filter vx_no
def vx_atS (own : String) (ic : Nat) (X : String) (names : List String) : List Cond := (Bundle.ownAtoms own ic X names).filter vx_no
/-- a word that the tables alone decide, or a good one -/
def vx_ot (w : Cond) : Bool := w.onTables || goodWord w
theorem vx_ot_at {args a' : Array Value} {s U : State} {w : Cond} (hW : s.WarmedH U.vm) (hvm : s.vm = U.vm) (hg : vx_ot w = true) (h : w.before args s = true) : w.before a' U = true := by
  simp only [vx_ot, Bool.or_eq_true] at hg
  rcases hg with hg | hg
  · exact va_tabs hg hvm h
  · exact word_at hW (good_of_word hg) h
/-- a list's words: the good ones out of the method's own list, the others by premises of their own -/
theorem vx_hat {args : Array Value} {s : State} {L B : List Cond} (h1 : ∀ w ∈ L.filter goodWord, w.before args s = true) (h2 : ∀ w ∈ L.filter (fun w => !goodWord w), w ∈ B) (h3 : ∀ w ∈ B, w.before args s = true) : ∀ w ∈ L, w.before args s = true := by
  intro w hw
  by_cases g : goodWord w = true
  · exact h1 w (List.mem_filter.mpr ⟨hw, g⟩)
  · refine h3 w (h2 w (List.mem_filter.mpr ⟨hw, ?_⟩))
    show (!goodWord w) = true
    cases hgw : goodWord w
    · rfl
    · exact absurd hgw g
theorem vx_c {args : Array Value} {s : State} {w : Cond} {B : List Cond} (h : w.before args s = true) (t : ∀ w ∈ B, w.before args s = true) : ∀ w' ∈ w :: B, w'.before args s = true := fun w' h' => (List.mem_cons.mp h').elim (fun e => by rw [e]; exact h) (t w')
theorem vx_n {args : Array Value} {s : State} : ∀ w ∈ ([] : List Cond), w.before args s = true := fun _ h => nomatch h
theorem vx_own {args : Array Value} {s : State} {L : List Cond} (h1 : ∀ w ∈ L.filter vx_no, w.before args s = true)
    (hU : (Cond.isRef (.static Bundle.tN "UNASSIGNED_STACK" Bundle.steD)).before args s = true) (hN : (Cond.isRef (.static Bundle.tN "SUPPRESSED_SENTINEL" Bundle.listD)).before args s = true)
    (lU : (Cond.laysStatic Bundle.tN "UNASSIGNED_STACK" Bundle.steD).before args s = true) (lN : (Cond.laysStatic Bundle.tN "SUPPRESSED_SENTINEL" Bundle.listD).before args s = true) : ∀ w ∈ L, w.before args s = true := by
  intro w hw
  by_cases e1 : w = .isRef (.static Bundle.tN "UNASSIGNED_STACK" Bundle.steD)
  · rw [e1]; exact hU
  · by_cases e2 : w = .isRef (.static Bundle.tN "SUPPRESSED_SENTINEL" Bundle.listD)
    · rw [e2]; exact hN
    · by_cases e3 : w = .laysStatic Bundle.tN "UNASSIGNED_STACK" Bundle.steD
      · rw [e3]; exact lU
      · by_cases e4 : w = .laysStatic Bundle.tN "SUPPRESSED_SENTINEL" Bundle.listD
        · rw [e4]; exact lN
        · exact h1 w (List.mem_filter.mpr ⟨hw, by unfold vx_no; rw [decide_eq_true e1, decide_eq_true e2, decide_eq_true e3, decide_eq_true e4]; rfl⟩)
/-- where a static field lies, its class's statics cell in H -/
def vx_L (C n d : String) (A : Nat → Prop) (U : State) (H : Heap) : Prop := ∃ (c : ClassId) (k : Class) (i : Nat) (f : Field) (a : Nat) (cell : Cell), U.vm.findClass C = some c ∧ U.fieldFound? C n d = some (c, k, i, f) ∧ f.isStatic = true ∧ k.statics = some a ∧ H[a]? = some cell ∧ cell.vm.isStatics = true ∧ cell.cls = c ∧ f.slot < cell.slots.size ∧ k.staticTypes[f.slot]? = some f.type ∧ ¬ A a
theorem vx_L.moved {C n d : String} {A : Nat → Prop} {u U : State} {H : Heap} (hvm : u.vm.Alike U.vm) (h : vx_L C n d A u H) : vx_L C n d A U H := by
  obtain ⟨c, k, i, f, a, cell, h1, h2, h3, h4, h5, h6, h7, h8, h9, h10⟩ := h
  obtain ⟨k', hi', he⟩ := State.fieldFound?_setVm hvm h2
  exact ⟨c, k', i, f, a, cell, by rw [hvm.findClass]; exact h1, hi', h3, by rw [he]; exact h4, h5, h6, h7, h8, by rw [he]; exact h9, h10⟩
theorem vx_L.kept {C n d : String} {A : Nat → Prop} {U : State} {H H1 : Heap} (h : vx_L C n d A U H) (hq : ∀ a : Nat, a < H.size → ¬ A a → H1[a]? = H[a]?) : vx_L C n d A U H1 := by
  obtain ⟨c, k, i, f, a, cell, h1, h2, h3, h4, h5, h6, h7, h8, h9, h10⟩ := h
  exact ⟨c, k, i, f, a, cell, h1, h2, h3, h4, by rw [hq a (Array.getElem?_eq_some_iff.mp h5).1 h10]; exact h5, h6, h7, h8, h9, h10⟩
theorem vx_L.narrow {C n d : String} {A B : Nat → Prop} {U : State} {H : Heap} (h : vx_L C n d A U H) (hAB : ∀ q, B q → A q) : vx_L C n d B U H := by
  obtain ⟨c, k, i, f, a, cell, h1, h2, h3, h4, h5, h6, h7, h8, h9, h10⟩ := h
  exact ⟨c, k, i, f, a, cell, h1, h2, h3, h4, h5, h6, h7, h8, h9, fun z => h10 (hAB _ z)⟩
theorem vx_L.word {C n d : String} {A : Nat → Prop} {s : State} {args : Array Value} (h : vx_L C n d A s s.heap) : (Cond.laysStatic C n d).before args s = true := by
  obtain ⟨c, k, i, f, a, cell, h1, h2, h3, h4, h5, h6, h7, h8, h9, -⟩ := h
  show (Cond.laysStatic C n d).holds args s none s [] = true
  exact Cond.laysStatic_of h1 h2 h3 h4 h5 h6 h7 h8 h9
/-- .. and what it holds: null or some reference -/
def vx_Zq (C n d : String) (A : Nat → Prop) (U : State) (H : Heap) : Prop := va_Zq C n d A U H ∧ vx_L C n d A U H
theorem vx_Zq.moved {C n d : String} {A : Nat → Prop} {u U : State} {H : Heap} (hvm : u.vm.Alike U.vm) (h : vx_Zq C n d A u H) : vx_Zq C n d A U H := ⟨va_Zq.moved hvm h.1, vx_L.moved hvm h.2⟩
theorem vx_Zq.kept {C n d : String} {A : Nat → Prop} {U : State} {H H1 : Heap} (h : vx_Zq C n d A U H) (hq : ∀ a : Nat, a < H.size → ¬ A a → H1[a]? = H[a]?) : vx_Zq C n d A U H1 := ⟨va_Zq.kept h.1 hq, vx_L.kept h.2 hq⟩
theorem vx_Zq.narrow {C n d : String} {A B : Nat → Prop} {U : State} {H : Heap} (h : vx_Zq C n d A U H) (hAB : ∀ q, B q → A q) : vx_Zq C n d B U H := ⟨va_Zq.narrow h.1 hAB, vx_L.narrow h.2 hAB⟩
theorem vx_Zqof {args : Array Value} {s : State} {C n d : String} {A : Nat → Prop} (hl : (Cond.laysStatic C n d).before args s = true) (hini : (Cond.initialized C).before args s = true) (h : (Cond.isRef (.static C n d)).before args s = true) (hA : ∀ a : Nat, a < s.heap.size → ¬ A a) : vx_Zq C n d A s s.heap := by
  refine ⟨va_Zqof hl hini h hA, ?_⟩
  obtain ⟨c, k, i, f, a, cell, h1, h2, h3, h4, h5, h6, h7, h8, h9⟩ := Cond.laysStatic_spec hl
  exact ⟨c, k, i, f, a, cell, h1, h2, h3, h4, h5, h6, h7, h8, h9, hA a (Array.getElem?_eq_some_iff.mp h5).1⟩
theorem vx_isRef {C n d : String} {v : Value} {A : Nat → Prop} {s : State} {args : Array Value} (h : va_Z C n d v A s s.heap) (hv : v.isRef = true) : (Cond.isRef (.static C n d)).before args s = true := by
  obtain ⟨cf, kf, fi, f, a, cell, h1, h2, h3, h4, h5, h6, h7, -⟩ := h
  have he : (Term.static C n d).eval args s none [] s = some v := by
    simp [Term.eval, State.fieldNamed?, h1, h2, h4, h5, h6, h7]
  simp only [Cond.before, Cond.holds, Cond.value, he]
  cases v <;> simp_all [Value.isRef]
theorem vx_isRefq {C n d : String} {A : Nat → Prop} {s : State} {args : Array Value} (h : va_Zq C n d A s s.heap) : (Cond.isRef (.static C n d)).before args s = true := by
  rcases h with h | ⟨t, h⟩
  · exact vx_isRef h rfl
  · exact vx_isRef h rfl
/-- the same frame, seen from here: as if the method were called anew in this heap -/
theorem vx_rebase {T : State} (X : Stand p l e R s m args below meth c T locs cells slots) {R' : Room} (hf : R'.frames ≤ R.frames) (hl : R'.locals ≤ R.locals) (hc : cells + R'.cells ≤ R.cells) (hs : slots + R'.slots ≤ R.slots) :
    Stand p l e R' ((T.setVm s.vm).setFrames (.invoking m args :: below)) m args below meth c T [] 0 0 := by
  have htop : (T.setVm s.vm).topJava?.isSome := X.here.top
  have hF : ((T.setVm s.vm).setFrames (.invoking m args :: below)).frames = .invoking m args :: below := State.frames_setFrames _ (State.cur_lt_of_top htop)
  obtain ⟨g₀, hg0⟩ := Option.isSome_iff_exists.mp htop
  obtain ⟨r, hr⟩ := State.topJava?_eq_some.mp hg0
  have hl9 : e.platform.stackLimits (T.setVm s.vm).me = e.platform.stackLimits s.me := X.limits
  have hb9 : (T.setVm s.vm).me.stackBytes = s.me.stackBytes := X.bytes
  refine ⟨X.admits, X.cas, X.clock, hF, ?_, X.hears, X.method, X.code, X.here, X.tail, X.warmed, ?_, ?_, ?_⟩
  · have h := X.room
    have hU : ((T.setVm s.vm).setFrames (.invoking m args :: below)).localsInUse = s.localsInUse := by
      rw [State.localsInUse_invoking hF (meth := meth) (c := c) X.method X.code, State.localsInUse_invoking X.frames X.method X.code]
    simp only [State.hasRoom, Bool.and_eq_true, decide_eq_true_eq] at h ⊢
    obtain ⟨⟨⟨⟨h1, h2, h3, h4, h5, h6⟩, h7⟩, h8⟩, h9⟩ := h
    rw [X.frames, List.length_cons] at h2 h3
    have q1 := X.heapSize
    have q2 := X.used
    simp only [hF, hU, List.length_cons, State.stackLimits_setFrames, State.stackBytes_setFrames, hl9, hb9]
    refine ⟨⟨⟨⟨by omega, by omega, by omega, by omega, by omega, h6⟩, ?_⟩, ?_⟩, X.book⟩
    · show T.heap.size + R'.cells ≤ e.platform.maxCells
      omega
    · show T.slotsUsed + R'.slots ≤ e.platform.maxSlots
      omega
  · rw [State.stackLimits_setFrames]; rfl
  · rw [State.stackBytes_setFrames]; rfl
  · refine ⟨?_, Nat.le_refl _, Nat.le_refl _, ?_, ?_, fun a c9 h9 => ⟨c9, h9, rfl, rfl, fun _ _ => rfl⟩⟩
    · obtain ⟨t, ht, -⟩ := State.frames_cons hr
      show T.setVm s.vm = { ((T.setVm s.vm).setFrames (.invoking m args :: below)).setFrames (T.setVm s.vm).frames with heap := T.heap, slotsUsed := T.slotsUsed }
      rw [State.setFrames_setFrames, State.setFrames_self ht]
      rfl
    · show T.slotsUsed = T.slotsUsed + ((T.heap.toList.drop T.heap.size).map (·.slots.size)).sum
      rw [List.drop_eq_nil_of_le (Nat.le_of_eq Array.length_toList)]
      rfl
    · show ((T.heap.toList.drop T.heap.size).map (·.slots.size)).sum ≤ 0
      rw [List.drop_eq_nil_of_le (Nat.le_of_eq Array.length_toList)]
      exact Nat.le_refl _
/-- 'throw new E()': new; dup; invokespecial; athrow -/
theorem vx_throw0 {cc : ByteArray} {pc : Nat} (hexec : p.tables.exec = Jvm.exec) (hb : c.code = cc) (hl : l.stackTraces = false) {own cls : String} {names : List String} {ik ic mc ms : Nat} {A : Nat → Prop}
    (hown : s.vm.findClass own = some m.cls) (hcls : Bundle.fit cls = true) (hnames : ∀ n ∈ names, Bundle.fit n = true)
    (hk : (Cond.classLink own ik cls).before args s = true) (hini : (Cond.initialized cls).before args s = true) (hat : ∀ w ∈ vx_at0 own ic cls names, w.before args s = true)
    (hgood : ∀ w ∈ Cond.classLink own ik cls :: Cond.initialized cls :: vx_at0 own ic cls names, vx_ot w = true)
    (hU : vx_Zq Bundle.tN "UNASSIGNED_STACK" Bundle.steD A s s.heap) (hN : vx_Zq Bundle.tN "SUPPRESSED_SENTINEL" Bundle.listD A s s.heap) (hS : va_S A s.heap H locs) (hsize : ls.size = c.maxLocals)
    (d0 : decode cc pc = .ok (.new ik, 3)) (d3 : decode cc (pc + 3) = .ok (.dup, 1)) (d4 : decode cc (pc + 4) = .ok (.invokespecial ic, 3)) (d7 : decode cc (pc + 7) = .ok (.athrow, 1))
    (hout : ∀ x ∈ c.exceptionTable.toList, covers x (pc + 7) = false)
    (hRframes : names.length + 3 < R.frames) (hRlocals : (rest.map fun v => v.category).sum + (13 * (names.length + 1) + 42) ≤ R.locals) (hRcells : cells + 1 ≤ R.cells) (hRslots : slots + 6 ≤ R.slots) (hlocks : meth.locks = false)
    (hx : ∀ t : State, s.vm.Alike t.vm → H.size ≤ t.heap.size → (∀ q : Nat, q < H.size → t.heap[q]? = H[q]?) → XC cls s t)
    (hf : ∀ z ∈ locs, free z.base) (hc : cells + 1 ≤ mc) (hs : slots + 6 ≤ ms) :
    W p l e R s m args below meth c H locs cells slots (vx_MQ below Qc XC args s mc ms free) (F0 m pc ls rest) := by
  intro T hT X
  have htr : e.platform.stackTraces = false := (show e.platform.stackTraces = l.stackTraces by rw [X.admits.platform]).trans hl
  have Y := vx_rebase X (R' := { frames := R.frames, locals := R.locals, cells := 1, slots := 6 }) (Nat.le_refl _) (Nat.le_refl _) hRcells hRslots
  obtain ⟨s', hA⟩ : ∃ z, z = (T.setVm s.vm).setFrames (.invoking m args :: below) := ⟨_, rfl⟩
  rw [← hA] at Y
  have hvm : s'.vm = s.vm := by rw [hA]; rfl
  have hhp : s'.heap = H := by rw [hA]; exact hT
  have hW0 : s.WarmedH s'.vm := by rw [hvm]; exact State.WarmedH.refl s
  have hat' : ∀ w ∈ vx_at0 own ic cls names, w.before args s' = true := fun w hw => vx_ot_at hW0 hvm.symm (hgood w (List.mem_cons_of_mem _ (List.mem_cons_of_mem _ hw))) (hat w hw)
  have hk' : (Cond.classLink own ik cls).before args s' = true := vx_ot_at hW0 hvm.symm (hgood _ List.mem_cons_self) hk
  have hini' : (Cond.initialized cls).before args s' = true := vx_ot_at hW0 hvm.symm (hgood _ (List.mem_cons_of_mem _ List.mem_cons_self)) hini
  have hU' : vx_Zq Bundle.tN "UNASSIGNED_STACK" Bundle.steD A s' s'.heap := by rw [hhp]; exact vx_Zq.moved hW0.alike (hU.kept hS.2.1)
  have hN' : vx_Zq Bundle.tN "SUPPRESSED_SENTINEL" Bundle.listD A s' s'.heap := by rw [hhp]; exact vx_Zq.moved hW0.alike (hN.kept hS.2.1)
  have h : ∀ w ∈ Bundle.ownAtoms0 own ic cls names, w.before args s' = true := vx_own hat' (vx_isRefq hU'.1) (vx_isRefq hN'.1) hU'.2.word hN'.2.word
  have hown' : s'.vm.findClass own = some m.cls := by rw [hvm]; exact hown
  have hins : (Cond.instantiable cls 6).before args s' = true := h _ (by simp [Bundle.ownAtoms0])
  obtain ⟨vm₁, cX, kX, hfX, hkX, -, -, X₁, st1⟩ := Y.newCold hexec (own := own) (C := cls) (index := ik) (n := 6) hown' hk' hins hini'
    (g := F0 m pc ls rest) rfl (by rw [hb]; exact d0) (Nat.le_refl _) (Nat.le_refl _)
  generalize hT1 : (T.setVm vm₁).pushCell { cls := cX, slots := kX.instanceTypes.map defaultValue, vm := .none } = T1 at X₁ st1
  have hcat : (Value.ref T.heap.size).category = 1 := rfl
  have hcellA : T1.heap[T.heap.size]? = some (freshCell cX kX) := by rw [← hT1]; exact State.heap_pushCell_size _ _
  have d3' : decode c.code (pc + 3) = .ok (.dup, 1) := by rw [hb]; exact d3
  obtain ⟨U, hsteps, hrun, hend, hW, hsame, ce, hce, hO⟩ := X₁.ctorThrow0 hexec htr (own := own) (cls := cls) (names := names) (ic := ic) hown' hcls hnames h (fun x hx => nomatch hx) hfX hkX hcellA (by rw [hhp, hT]; exact Nat.le_refl _)
    (g := { method := m, pc := pc + 4, locals := ls, stack := .ref T.heap.size :: .ref T.heap.size :: rest, locked := none }) rfl hsize rfl rfl (rest := rest) rfl
    (by rw [hb]; exact d4) (by rw [hb]; exact d7) hout hRframes (by simp only [List.map_cons, List.sum_cons, hcat]; omega) hlocks
  obtain ⟨f1, f2⟩ := vx_frame hsame
  rw [hhp] at f1 f2
  have hWs : s.WarmedH U.vm := State.WarmedH.trans hW0 hW
  have hcl : s.vm.findClass cls = some ce.cls := by
    have h9 := hO.cls
    rw [hvm] at h9
    exact h9
  have hall : s.sameButNew ({ U with vm := s.vm } : State) locs mc ms := by
    subst hA
    obtain ⟨e1, e2⟩ := hsame
    rw [State.setFrames_setFrames] at e1
    have h2 : (T.setVm s.vm).sameButNew ({ U with vm := s.vm } : State) [] (0 + 1) (0 + 6) := ⟨e1, e2⟩
    have h3 := X.same.trans h2
    rw [List.append_nil] at h3
    exact h3.mono hc hs
  refine ⟨U, ?_, .threw T.heap.size, hrun, hend, Or.inr ⟨T.heap.size, rfl, cls, ce, locs, hx U hWs.alike f1 (fun q hq => f2 q hq (fun z hz => nomatch hz)), hce, hO.vm, hcl, hWs, hall, hf⟩⟩
  refine st1 _ ?_
  show Steps p.tables e below (T1.setTop { method := m, pc := pc + 3, locals := ls, stack := .ref T.heap.size :: rest, locked := none }) _
  jvm_step X₁.here [X₁.here.top, hexec, d3', Value.category]
  exact hsteps
/-- 'throw new E("text")': new; dup; ldc; invokespecial; athrow -/
theorem vx_throwS {cc : ByteArray} {pc : Nat} (hexec : p.tables.exec = Jvm.exec) (hb : c.code = cc) (hl : l.stackTraces = false) {own cls text : String} {names : List String} {ik is ic mc ms sa : Nat} {A : Nat → Prop}
    (hown : s.vm.findClass own = some m.cls) (hcls : Bundle.fit cls = true) (hnames : ∀ n ∈ names, Bundle.fit n = true)
    (hk : (Cond.classLink own ik cls).before args s = true) (hini : (Cond.initialized cls).before args s = true) (hstr : vk_R own is text sa s) (hat : ∀ w ∈ vx_atS own ic cls names, w.before args s = true)
    (hgood : ∀ w ∈ Cond.classLink own ik cls :: Cond.initialized cls :: vx_atS own ic cls names, vx_ot w = true)
    (hU : vx_Zq Bundle.tN "UNASSIGNED_STACK" Bundle.steD A s s.heap) (hN : vx_Zq Bundle.tN "SUPPRESSED_SENTINEL" Bundle.listD A s s.heap) (hS : va_S A s.heap H locs) (hsize : ls.size = c.maxLocals)
    (d0 : decode cc pc = .ok (.new ik, 3)) (d3 : decode cc (pc + 3) = .ok (.dup, 1)) (d4 : decode cc (pc + 4) = .ok (.ldc is, 2)) (d6 : decode cc (pc + 6) = .ok (.invokespecial ic, 3)) (d9 : decode cc (pc + 9) = .ok (.athrow, 1))
    (hout : ∀ x ∈ c.exceptionTable.toList, covers x (pc + 9) = false)
    (hRframes : names.length + 3 < R.frames) (hRlocals : (rest.map fun v => v.category).sum + (13 * (names.length + 1) + 43) ≤ R.locals) (hRcells : cells + 1 ≤ R.cells) (hRslots : slots + 6 ≤ R.slots) (hlocks : meth.locks = false)
    (hx : ∀ t : State, s.vm.Alike t.vm → H.size ≤ t.heap.size → (∀ q : Nat, q < H.size → t.heap[q]? = H[q]?) → XC cls s t)
    (hf : ∀ z ∈ locs, free z.base) (hc : cells + 1 ≤ mc) (hs : slots + 6 ≤ ms) :
    W p l e R s m args below meth c H locs cells slots (vx_MQ below Qc XC args s mc ms free) (F0 m pc ls rest) := by
  intro T hT X
  have htr : e.platform.stackTraces = false := (show e.platform.stackTraces = l.stackTraces by rw [X.admits.platform]).trans hl
  have Y := vx_rebase X (R' := { frames := R.frames, locals := R.locals, cells := 1, slots := 6 }) (Nat.le_refl _) (Nat.le_refl _) hRcells hRslots
  obtain ⟨s', hA⟩ : ∃ z, z = (T.setVm s.vm).setFrames (.invoking m args :: below) := ⟨_, rfl⟩
  rw [← hA] at Y
  have hvm : s'.vm = s.vm := by rw [hA]; rfl
  have hhp : s'.heap = H := by rw [hA]; exact hT
  have hW0 : s.WarmedH s'.vm := by rw [hvm]; exact State.WarmedH.refl s
  have hat' : ∀ w ∈ vx_atS own ic cls names, w.before args s' = true := fun w hw => vx_ot_at hW0 hvm.symm (hgood w (List.mem_cons_of_mem _ (List.mem_cons_of_mem _ hw))) (hat w hw)
  have hk' : (Cond.classLink own ik cls).before args s' = true := vx_ot_at hW0 hvm.symm (hgood _ List.mem_cons_self) hk
  have hini' : (Cond.initialized cls).before args s' = true := vx_ot_at hW0 hvm.symm (hgood _ (List.mem_cons_of_mem _ List.mem_cons_self)) hini
  have hU' : vx_Zq Bundle.tN "UNASSIGNED_STACK" Bundle.steD A s' s'.heap := by rw [hhp]; exact vx_Zq.moved hW0.alike (hU.kept hS.2.1)
  have hN' : vx_Zq Bundle.tN "SUPPRESSED_SENTINEL" Bundle.listD A s' s'.heap := by rw [hhp]; exact vx_Zq.moved hW0.alike (hN.kept hS.2.1)
  have h : ∀ w ∈ Bundle.ownAtoms own ic cls names, w.before args s' = true := vx_own hat' (vx_isRefq hU'.1) (vx_isRefq hN'.1) hU'.2.word hN'.2.word
  have hown' : s'.vm.findClass own = some m.cls := by rw [hvm]; exact hown
  have hins : (Cond.instantiable cls 6).before args s' = true := h _ (by simp [Bundle.ownAtoms])
  obtain ⟨vm₁, cX, kX, hfX, hkX, -, -, X₁, st1⟩ := Y.newCold hexec (own := own) (C := cls) (index := ik) (n := 6) hown' hk' hins hini'
    (g := F0 m pc ls rest) rfl (by rw [hb]; exact d0) (Nat.le_refl _) (Nat.le_refl _)
  generalize hT1 : (T.setVm vm₁).pushCell { cls := cX, slots := kX.instanceTypes.map defaultValue, vm := .none } = T1 at X₁ st1
  have hcat : (Value.ref T.heap.size).category = 1 := rfl
  have hcellA : T1.heap[T.heap.size]? = some (freshCell cX kX) := by rw [← hT1]; exact State.heap_pushCell_size _ _
  have d3' : decode c.code (pc + 3) = .ok (.dup, 1) := by rw [hb]; exact d3
  have d4' : decode c.code (pc + 4) = .ok (.ldc is, 2) := by rw [hb]; exact d4
  have hstr' : vk_R own is text sa s' := vk_R.warm hW0 hstr
  obtain ⟨U, hsteps, hrun, hend, hW, hsame, ce, hce, hO⟩ := X₁.ctorThrowS hexec htr (own := own) (cls := cls) (names := names) (ic := ic) hown' hcls hnames h (fun x hx => nomatch hx) hfX hkX hcellA (by rw [hhp, hT]; exact Nat.le_refl _) (msg := .ref sa) rfl
    (g := { method := m, pc := pc + 6, locals := ls, stack := .ref sa :: .ref T.heap.size :: .ref T.heap.size :: rest, locked := none }) rfl hsize rfl rfl (rest := rest) rfl
    (by rw [hb]; exact d6) (by rw [hb]; exact d9) hout hRframes (by simp only [List.map_cons, List.sum_cons, hcat]; omega) hlocks
  obtain ⟨f1, f2⟩ := vx_frame hsame
  rw [hhp] at f1 f2
  have hWs : s.WarmedH U.vm := State.WarmedH.trans hW0 hW
  have hcl : s.vm.findClass cls = some ce.cls := by
    have h9 := hO.cls
    rw [hvm] at h9
    exact h9
  have hall : s.sameButNew ({ U with vm := s.vm } : State) locs mc ms := by
    subst hA
    obtain ⟨e1, e2⟩ := hsame
    rw [State.setFrames_setFrames] at e1
    have h2 : (T.setVm s.vm).sameButNew ({ U with vm := s.vm } : State) [] (0 + 1) (0 + 6) := ⟨e1, e2⟩
    have h3 := X.same.trans h2
    rw [List.append_nil] at h3
    exact h3.mono hc hs
  refine ⟨U, ?_, .threw T.heap.size, hrun, hend, Or.inr ⟨T.heap.size, rfl, cls, ce, locs, hx U hWs.alike f1 (fun q hq => f2 q hq (fun z hz => nomatch hz)), hce, hO.vm, hcl, hWs, hall, hf⟩⟩
  refine st1 _ ?_
  show Steps p.tables e below (T1.setTop { method := m, pc := pc + 3, locals := ls, stack := .ref T.heap.size :: rest, locked := none }) _
  jvm_step X₁.here [X₁.here.top, hexec, d3', Value.category]
  exact X₁.ldcString hexec (own := own) (text := text) (index := is) (a := sa) hown' hstr'.1 hstr'.2
    (g := { method := m, pc := pc + 4, locals := ls, stack := .ref T.heap.size :: .ref T.heap.size :: rest, locked := none }) rfl d4' _ hsteps
/-- 'throw new E("text")', the text by a wide index -/
theorem vx_throwSW {cc : ByteArray} {pc : Nat} (hexec : p.tables.exec = Jvm.exec) (hb : c.code = cc) (hl : l.stackTraces = false) {own cls text : String} {names : List String} {ik is ic mc ms sa : Nat} {A : Nat → Prop}
    (hown : s.vm.findClass own = some m.cls) (hcls : Bundle.fit cls = true) (hnames : ∀ n ∈ names, Bundle.fit n = true)
    (hk : (Cond.classLink own ik cls).before args s = true) (hini : (Cond.initialized cls).before args s = true) (hstr : vk_R own is text sa s) (hat : ∀ w ∈ vx_atS own ic cls names, w.before args s = true)
    (hgood : ∀ w ∈ Cond.classLink own ik cls :: Cond.initialized cls :: vx_atS own ic cls names, vx_ot w = true)
    (hU : vx_Zq Bundle.tN "UNASSIGNED_STACK" Bundle.steD A s s.heap) (hN : vx_Zq Bundle.tN "SUPPRESSED_SENTINEL" Bundle.listD A s s.heap) (hS : va_S A s.heap H locs) (hsize : ls.size = c.maxLocals)
    (d0 : decode cc pc = .ok (.new ik, 3)) (d3 : decode cc (pc + 3) = .ok (.dup, 1)) (d4 : decode cc (pc + 4) = .ok (.ldc_w is, 3)) (d7 : decode cc (pc + 7) = .ok (.invokespecial ic, 3)) (d10 : decode cc (pc + 10) = .ok (.athrow, 1))
    (hout : ∀ x ∈ c.exceptionTable.toList, covers x (pc + 10) = false)
    (hRframes : names.length + 3 < R.frames) (hRlocals : (rest.map fun v => v.category).sum + (13 * (names.length + 1) + 43) ≤ R.locals) (hRcells : cells + 1 ≤ R.cells) (hRslots : slots + 6 ≤ R.slots) (hlocks : meth.locks = false)
    (hx : ∀ t : State, s.vm.Alike t.vm → H.size ≤ t.heap.size → (∀ q : Nat, q < H.size → t.heap[q]? = H[q]?) → XC cls s t)
    (hf : ∀ z ∈ locs, free z.base) (hc : cells + 1 ≤ mc) (hs : slots + 6 ≤ ms) :
    W p l e R s m args below meth c H locs cells slots (vx_MQ below Qc XC args s mc ms free) (F0 m pc ls rest) := by
  intro T hT X
  have htr : e.platform.stackTraces = false := (show e.platform.stackTraces = l.stackTraces by rw [X.admits.platform]).trans hl
  have Y := vx_rebase X (R' := { frames := R.frames, locals := R.locals, cells := 1, slots := 6 }) (Nat.le_refl _) (Nat.le_refl _) hRcells hRslots
  obtain ⟨s', hA⟩ : ∃ z, z = (T.setVm s.vm).setFrames (.invoking m args :: below) := ⟨_, rfl⟩
  rw [← hA] at Y
  have hvm : s'.vm = s.vm := by rw [hA]; rfl
  have hhp : s'.heap = H := by rw [hA]; exact hT
  have hW0 : s.WarmedH s'.vm := by rw [hvm]; exact State.WarmedH.refl s
  have hat' : ∀ w ∈ vx_atS own ic cls names, w.before args s' = true := fun w hw => vx_ot_at hW0 hvm.symm (hgood w (List.mem_cons_of_mem _ (List.mem_cons_of_mem _ hw))) (hat w hw)
  have hk' : (Cond.classLink own ik cls).before args s' = true := vx_ot_at hW0 hvm.symm (hgood _ List.mem_cons_self) hk
  have hini' : (Cond.initialized cls).before args s' = true := vx_ot_at hW0 hvm.symm (hgood _ (List.mem_cons_of_mem _ List.mem_cons_self)) hini
  have hU' : vx_Zq Bundle.tN "UNASSIGNED_STACK" Bundle.steD A s' s'.heap := by rw [hhp]; exact vx_Zq.moved hW0.alike (hU.kept hS.2.1)
  have hN' : vx_Zq Bundle.tN "SUPPRESSED_SENTINEL" Bundle.listD A s' s'.heap := by rw [hhp]; exact vx_Zq.moved hW0.alike (hN.kept hS.2.1)
  have h : ∀ w ∈ Bundle.ownAtoms own ic cls names, w.before args s' = true := vx_own hat' (vx_isRefq hU'.1) (vx_isRefq hN'.1) hU'.2.word hN'.2.word
  have hown' : s'.vm.findClass own = some m.cls := by rw [hvm]; exact hown
  have hins : (Cond.instantiable cls 6).before args s' = true := h _ (by simp [Bundle.ownAtoms])
  obtain ⟨vm₁, cX, kX, hfX, hkX, -, -, X₁, st1⟩ := Y.newCold hexec (own := own) (C := cls) (index := ik) (n := 6) hown' hk' hins hini'
    (g := F0 m pc ls rest) rfl (by rw [hb]; exact d0) (Nat.le_refl _) (Nat.le_refl _)
  generalize hT1 : (T.setVm vm₁).pushCell { cls := cX, slots := kX.instanceTypes.map defaultValue, vm := .none } = T1 at X₁ st1
  have hcat : (Value.ref T.heap.size).category = 1 := rfl
  have hcellA : T1.heap[T.heap.size]? = some (freshCell cX kX) := by rw [← hT1]; exact State.heap_pushCell_size _ _
  have d3' : decode c.code (pc + 3) = .ok (.dup, 1) := by rw [hb]; exact d3
  have d4' : decode c.code (pc + 4) = .ok (.ldc_w is, 3) := by rw [hb]; exact d4
  have hstr' : vk_R own is text sa s' := vk_R.warm hW0 hstr
  obtain ⟨U, hsteps, hrun, hend, hW, hsame, ce, hce, hO⟩ := X₁.ctorThrowS hexec htr (own := own) (cls := cls) (names := names) (ic := ic) hown' hcls hnames h (fun x hx => nomatch hx) hfX hkX hcellA (by rw [hhp, hT]; exact Nat.le_refl _) (msg := .ref sa) rfl
    (g := { method := m, pc := pc + 7, locals := ls, stack := .ref sa :: .ref T.heap.size :: .ref T.heap.size :: rest, locked := none }) rfl hsize rfl rfl (rest := rest) rfl
    (by rw [hb]; exact d7) (by rw [hb]; exact d10) hout hRframes (by simp only [List.map_cons, List.sum_cons, hcat]; omega) hlocks
  obtain ⟨f1, f2⟩ := vx_frame hsame
  rw [hhp] at f1 f2
  have hWs : s.WarmedH U.vm := State.WarmedH.trans hW0 hW
  have hcl : s.vm.findClass cls = some ce.cls := by
    have h9 := hO.cls
    rw [hvm] at h9
    exact h9
  have hall : s.sameButNew ({ U with vm := s.vm } : State) locs mc ms := by
    subst hA
    obtain ⟨e1, e2⟩ := hsame
    rw [State.setFrames_setFrames] at e1
    have h2 : (T.setVm s.vm).sameButNew ({ U with vm := s.vm } : State) [] (0 + 1) (0 + 6) := ⟨e1, e2⟩
    have h3 := X.same.trans h2
    rw [List.append_nil] at h3
    exact h3.mono hc hs
  refine ⟨U, ?_, .threw T.heap.size, hrun, hend, Or.inr ⟨T.heap.size, rfl, cls, ce, locs, hx U hWs.alike f1 (fun q hq => f2 q hq (fun z hz => nomatch hz)), hce, hO.vm, hcl, hWs, hall, hf⟩⟩
  refine st1 _ ?_
  show Steps p.tables e below (T1.setTop { method := m, pc := pc + 3, locals := ls, stack := .ref T.heap.size :: rest, locked := none }) _
  jvm_step X₁.here [X₁.here.top, hexec, d3', Value.category]
  exact X₁.ldcStringW hexec (own := own) (text := text) (index := is) (a := sa) hown' hstr'.1 hstr'.2
    (g := { method := m, pc := pc + 4, locals := ls, stack := .ref T.heap.size :: .ref T.heap.size :: rest, locked := none }) rfl d4' _ hsteps
end Ends
section Bodies
variable {l : Launch}
theorem vx_ofW {y : MethodName} {ws ws' : List Cond} {rm : Room} {Pc : Array Value → State → Prop} {Qc : Array Value → State → Outcome → State → Prop} {XC : String → State → State → Prop} {mc ms : Nat} {free : Addr → Prop} {cc : ByteArray} {maxL : Nat} {ret : Option FieldType}
    (hy : plainName y.cls = true) (hw : ws = Cond.code y cc maxL ret :: ws')
    (body : ∀ p e s m args below meth c s₁, BodyLoose p l y (headSpec ws rm) cc maxL ret e s m args below meth c s₁ → c.maxLocals = maxL → (∀ x ∈ c.exceptionTable.toList, False) → Pc args s →
      W p l e (headSpec ws rm).room s m args below meth c s.heap [] 0 0 (vx_MQ below Qc XC args s mc ms free) (entryFrame m args maxL)) : vx_Met l y ws rm Pc Qc XC mc ms free := by
  refine MetFree.of_bodyS (code := cc) (maxLocals := maxL) (ret := ret) hy ?_ ?_
  · intro args s m h hn
    obtain ⟨meth, c, h1, h2, h3, h4, h5, h6, -, -⟩ := Cond.code_spec hn (atoms_spec (ws := ws) h _ (by rw [hw]; exact List.mem_cons_self))
    exact ⟨meth, c, h1, h2, h3, h4, h5, h6⟩
  · intro p e s m args below meth c s₁ B hml hP _
    have hh0 : s₁.heap = s.heap := by rw [B.state]; rfl
    have ht : ∀ x ∈ c.exceptionTable.toList, False := by
      obtain ⟨meth9, c9, h1, h2, -, -, -, -, h7, -⟩ := Cond.code_spec B.named (atoms_spec (ws := ws) B.pre _ (by rw [hw]; exact List.mem_cons_self))
      cases Option.some.inj (h1.symm.trans B.method)
      cases Option.some.inj (h2.symm.trans (Stand.of_body B).code)
      intro x hx
      rw [Array.isEmpty_iff.mp h7] at hx
      cases hx
    obtain ⟨t, a1, o, b1, b2, b3⟩ := body p e s m args below meth c s₁ B hml ht hP s₁ hh0 (Stand.of_body B)
    exact ⟨t, o, a1, b1, b2, b3⟩
/-- the table of a body with handlers -/
theorem vx_table {p : Program} {x y : MethodName} {S : Spec} {cc bytes : ByteArray} {maxL maxL' : Nat} {ret ret' : Option FieldType} {e : Env} {s s₁ : State} {m : MethodId} {args : Array Value} {below : List Frame} {meth : Method} {c : Code} {hh : List (Nat × Nat × Nat × Nat)}
    (B : BodyLoose p l y S cc maxL ret e s m args below meth c s₁) (h : (Cond.codeWith y bytes maxL' ret' hh).before args s = true) : c.exceptionTable.toList = tableOf hh := by
  obtain ⟨m9, meth9, c9, hn9, h1, h2, -, -, h6, -⟩ := Cond.codeWith_spec h
  cases Option.some.inj (hn9.symm.trans B.named)
  cases Option.some.inj (h1.symm.trans B.method)
  cases Option.some.inj (h2.symm.trans (Stand.of_body B).code)
  rw [← h6, table_eq]
end Bodies
end VXA
/-! ===== END ===== -/
/-! ===== BEGIN a static call of a method with an exception table ===== -/
section VXS
variable {p : Program} {l : Launch} {e : Env} {R : Room} {s : State} {m : MethodId} {args : Array Value} {below : List Frame} {meth : Method} {c : Code} {T : State} {H : Heap} {locs : List Loc} {cells slots : Nat}
abbrev vx_CSW (R : Room) (s : State) (args : Array Value) (own : String) (index : Nat) (y : MethodName) (bytes : ByteArray) (maxL : Nat) (ret : Option FieldType) (hh : List (Nat × Nat × Nat × Nat)) (ws : List Cond) (rm : Room) (mc ms n : Nat) : Prop :=
  (rm.cells = mc ∧ rm.slots = ms ∧ rm.frames + 1 ≤ R.frames ∧ 8 + (maxL + 11) + rm.locals ≤ R.locals ∧ (∀ w ∈ ws, ∀ (a' : Array Value) (U : State), s.WarmedH U.vm → w.before a' U = true) ∧ Cond.codeWith y bytes maxL ret hh ∈ ws) ∧
  (Cond.codeWith y bytes maxL ret hh).before args s = true ∧ (Cond.initialized y.cls).before args s = true ∧ (y.cls ≠ "java/lang/invoke/MethodHandle" ∧ y.cls ≠ "java/lang/invoke/VarHandle") ∧
  (∀ sig, parseMethodDescriptor y.desc = some sig → n = sig.parameters.length) ∧ (Cond.methodLink own index y).before args s = true ∧ (Cond.static y).before args s = true
theorem vx_cwSW {own : String} {index maxL mc ms : Nat} {y : MethodName} {bytes : ByteArray} {ret : Option FieldType} {hh : List (Nat × Nat × Nat × Nat)} {Ts ws ws' : List Cond} {rm : Room} (n : Nat) (ht : ∀ w ∈ Ts, w.before args s = true) (hT : GoodIn Ts (va_wsS own index y ws)) (hw : ws = Cond.codeWith y bytes maxL ret hh :: ws') (hrc : rm.cells = mc) (hrs : rm.slots = ms)
    (hd : y.cls ≠ "java/lang/invoke/MethodHandle" ∧ y.cls ≠ "java/lang/invoke/VarHandle" ∧ (parseMethodDescriptor y.desc).map (fun d => d.parameters.length) = some n) (hR : rm.frames + 1 ≤ R.frames ∧ 8 + (maxL + 11) + rm.locals ≤ R.locals) :
    vx_CSW R s args own index y bytes maxL ret hh ws rm mc ms n := by
  have ok : ∀ w ∈ va_wsS own index y ws, w.before args s = true := fun w h => ht w (hT w h).1
  have hG : GoodIn Ts ws := fun w h => hT w (by unfold va_wsS; exact List.mem_append_right _ h)
  have hc : Cond.codeWith y bytes maxL ret hh ∈ ws := by rw [hw]; exact List.mem_cons_self
  refine ⟨⟨hrc, hrs, hR.1, hR.2, pay_in ht hG, hc⟩, ht _ (hG _ hc).1, ok _ (by simp [va_wsS]), ⟨hd.1, hd.2.1⟩, fun sig h => ?_, ok _ (by simp [va_wsS]), ok _ (by simp [va_wsS])⟩
  have h2 := hd.2.2
  rw [h] at h2
  exact (Option.some.inj h2).symm
theorem vx_callSW (X : Stand p l e R s m args below meth c T locs cells slots) (hexec : p.tables.exec = Jvm.exec) {own : String} {index : Nat} {y : MethodName} {bytes : ByteArray} {maxL : Nat} {ret : Option FieldType} {hh : List (Nat × Nat × Nat × Nat)}
    (hown : s.vm.findClass own = some m.cls) (hlink : (Cond.methodLink own index y).before args s = true) (hstat : (Cond.static y).before args s = true) (hinit : (Cond.initialized y.cls).before args s = true)
    (hcode : (Cond.codeWith y bytes maxL ret hh).before args s = true) (hy : y.cls ≠ "java/lang/invoke/MethodHandle" ∧ y.cls ≠ "java/lang/invoke/VarHandle")
    {W9 : Nat} {Pre : Pt → Array Value → Prop} {Post : Pt → Array Value → Option Value → Pt → Prop} (hK : Back l R p e below s args y 3 W9 Pre Post)
    {g : JFrame} (hg : g.method = m) (hsize : g.locals.size = c.maxLocals) {argsL rest : List Value} (hlen : ∀ sig, parseMethodDescriptor y.desc = some sig → argsL.length = sig.parameters.length)
    (hstack : g.stack = argsL.reverse ++ rest) (hW : 2 * g.monitorRoom + (rest.map fun v => v.category).sum ≤ W9) (hdg : decode c.code g.pc = .ok (.invokestatic index, 3))
    (hpre : ∀ vm₁, s.WarmedH vm₁ → Pre ⟨T.setVm vm₁, locs, cells, slots⟩ argsL.toArray) :
    ∃ (v : Option Value) (vm₁ : Vm) (B : Pt), s.WarmedH vm₁ ∧ Stand p l e R s m args below meth c B.U B.locs B.cells B.slots ∧ Post ⟨T.setVm vm₁, locs, cells, slots⟩ argsL.toArray v B ∧
      ∀ target, Steps p.tables e below (B.U.setTop { g with pc := g.pc + 3, stack := v.toList ++ rest }) target → Steps p.tables e below (T.setTop g) target := by
  obtain ⟨mk, methM, cM, hnamed, hmethM, -, -, -, -, -, -, hsigM⟩ := Cond.codeWith_spec hcode
  have hstatic : methM.isStatic = true := Cond.static_spec hnamed hmethM hstat
  obtain ⟨kP, hkP, -⟩ := className_of_methodNamed hnamed
  have hinitP : kP.init = .initialized := Cond.initialized_spec (findClass_of_methodNamed hnamed) hkP hinit
  obtain ⟨vm₁, X₁, hstep₁⟩ := X.invokestatic hexec hown hlink hnamed hmethM hstatic hkP hinitP hy (g := g) hg (argsL := argsL) (rest := rest) (hlen _ hsigM) hstack hdg
  obtain ⟨v, B, X', hpost, hsteps⟩ := hK m meth c ⟨T.setVm vm₁, locs, cells, slots⟩ { g with stack := rest } (.invokestatic index) mk argsL.toArray X₁ hg hsize hdg hW (X₁.named hnamed) (hpre vm₁ X₁.warmed)
  exact ⟨v, vm₁, B, X₁.warmed, X', hpost, fun target h => hstep₁ _ fun acts => by rw [doInvoke_state]; exact hsteps.trans h⟩
theorem vx_runSW {y : MethodName} {bytes cc : ByteArray} {maxL nL mc ms n index : Nat} {ret : Option FieldType} {hh : List (Nat × Nat × Nat × Nat)} {ws : List Cond} {rm : Room} {Pc : Array Value → State → Prop} {Qc : Array Value → State → Outcome → State → Prop} {free : Addr → Prop} {Ts : List Cond} {own : String} {As rest : List Value} {g : JFrame}
    (S : CallFix p m c cc nL s args Ts own) (hM : Met l y ws rm Pc Qc mc ms free) (cw : vx_CSW R s args own index y bytes maxL ret hh ws rm mc ms n) (hp : PreS s H Pc As)
    (hg : g.method = m) (hn : As.length = n) (hsize : g.locals.size = nL) (hstack : g.stack = As.reverse ++ rest) (hW : 2 * g.monitorRoom + (rest.map fun v => v.category).sum ≤ 8) (hdg : decode cc g.pc = .ok (.invokestatic index, 3)) (hf : cells + mc ≤ R.cells ∧ slots + ms ≤ R.slots) :
    va_Run p l e R s m args below meth c H locs cells slots mc ms g rest (Qc As.toArray) (free) := by
  obtain ⟨⟨hrc, hrs, hfr, hlo, hws, hcw⟩, hcode, hini, hy, hlen, hl, hstt⟩ := cw
  have hK : Back l R p e below s args y 3 8 (PreOf R mc ms Pc) (PostOf Qc mc ms free) := va_backW (hh := hh) (bytes := bytes) (maxL := maxL) (ret := ret) hM hp.1 hrc hrs hfr hlo hws hcw (fun a' U hW => word_at hW (Or.inl (by first | rfl | simp [Cond.onTables, Cond.keeps, Cond.steady])) hini)
  obtain ⟨hx, hb, hml, ho, -⟩ := S
  intro T hT X
  obtain ⟨v, vm₁, ⟨U', l2, c2, s2⟩, hW₁, X', ⟨g', mk, t, L, e1, e2, hq, h1, hL, h2, h3⟩, st⟩ := vx_callSW X hx (hh := hh) (bytes := bytes) (maxL := maxL) (ret := ret) ho hl hstt hini hcode hy hK hg (hsize.trans hml.symm) (argsL := As) (rest := rest) (fun sig h => hn.trans (hlen sig h)) hstack hW (by rw [hb]; exact hdg)
    (fun vm₁ hW₁ => ⟨hf.1, hf.2, hp.2 (T.setVm vm₁) hT hW₁⟩)
  dsimp only [Pt.U, Pt.locs, Pt.cells, Pt.slots] at X' e1 e2 h1 h2 h3 st
  subst h1; subst h2; subst h3
  exact ⟨v, (T.setVm vm₁).calling g' mk As.toArray, t, U', L, hT, X', hL, e1, e2, hq, st⟩
/-- not caught here, past rows that name other classes: it goes on to the caller -/
theorem vx_outP {p : Program} {l : Launch} {e : Env} {R : Room} {s : State} {m : MethodId} {args : Array Value} {below : List Frame} {meth : Method} {c : Code} {H : Heap} {locs : List Loc} {cells slots : Nat} {free : Addr → Prop} {ls : Array Slot} {rest : List Value} {Qc : Array Value → State → Outcome → State → Prop} {XC : String → State → State → Prop}
    {pc : Nat} {own E : String} {ce : Cell} {q : Addr} {mc ms : Nat} (hown : s.vm.findClass own = some m.cls) (hlocks : meth.locks = false)
    (hpass : ∀ z ∈ c.exceptionTable.toList, covers z pc = false ∨ (z.catchType ≠ 0 ∧ ∃ nm : String, (Cond.classLink own z.catchType nm).before args s = true ∧ va_Nc E nm s)) (hcell : H[q]? = some ce) (hv : ce.vm = .none) (hcl : s.vm.findClass E = some ce.cls)
    (hx : ∀ t : State, t.heap = H → s.vm.Alike t.vm → XC E s t) (hf : ∀ z ∈ locs, free z.base) (hc : cells ≤ mc) (hs : slots ≤ ms) :
    vx_W p l e R s m args below meth c H locs cells slots (vx_MQ below Qc XC args s mc ms free) (F0 m pc ls rest) q := by
  intro T hT X
  have hpl : e.platform.magicAccessors = ({} : Platform).magicAccessors := by rw [X.admits.platform]
  obtain ⟨vm', hW', X', st⟩ := X.outThrough hlocks q (g := F0 m pc ls rest) rfl rfl rfl (cell := ce) (by rw [hT]; exact hcell) (by rw [hv]; rfl)
    (by obtain ⟨k9, h9, -⟩ := Vm.findClass_spec hcl; exact ⟨k9, h9⟩) (fun z hz => by
      rcases hpass z hz with h | ⟨hz0, nm, hl1, hn1⟩
      · exact Or.inl h
      · obtain ⟨c6, hc6, hcl6⟩ := Cond.classLink_spec hown hl1 e.platform hpl
        obtain ⟨a8, b8, h1, h2, h3⟩ := hn1
        cases Option.some.inj (h1.symm.trans hcl)
        cases Option.some.inj (h2.symm.trans hc6)
        exact Or.inr ⟨hz0, _, hcl6, h3⟩)
  obtain ⟨g₀, hfr⟩ := X'.frames_eq
  have hcell9 : ((T.setVm vm').setFrames (.throwing q :: below)).heap[q]? = some ce := by
    show T.heap[q]? = some ce
    rw [hT]; exact hcell
  have hend : Ended ((T.setVm vm').setFrames (.throwing q :: below)) below (.threw q) := State.frames_setFrames _ (State.cur_lt_of_frames hfr)
  refine ⟨(T.setVm vm').setFrames (.throwing q :: below), ?_, .threw q, X'.here.running, hend, Or.inr ⟨q, rfl, E, ce, locs, hx _ hT (X'.ends _).1.alike, hcell9, hv, hcl, (X'.ends _).1, (X'.ends _).2.mono hc hs, hf⟩⟩
  rw [X.pushThrowing_eq]
  exact st
/-- a thing of a world lies in the heap -/
theorem vx_lt {D : va_G} {cl : List vw_C} {ws : va_W} {H1 : Heap} (h : va_P D cl ws H1) {k : Nat} {q : Nat × va_E} (hk : ws[k]? = some q) : q.1 < H1.size := (h k q hk).lt
end VXS
/-! ===== END ===== -/
/-! ===== BEGIN methods with a table of their own: called by a name, returning or throwing ===== -/
section VXH
/-! vx_backW, vx_callVX, vx_callSX, vx_callVW, vx_runVW, vx_runVX, vx_runSX, vx_ofWH follow the same proofs as their sisters above (Free/Laws.lean, Shelf42/LK1.lean); vx_outP calls Shelf42/NT130.lean (outThrough). -/
section
variable {l : Launch} {R : Room} {p : Program} {e : Env} {below : List Frame} {s : State} {sargs : Array Value} {y : MethodName} {len W9 : Nat}
theorem vx_backW {ws : List Cond} {rm : Room} {Pc : Array Value → State → Prop} {Qc : Array Value → State → Outcome → State → Prop} {XC : String → State → State → Prop} {mc ms : Nat} {free : Addr → Prop} {bytes : ByteArray} {maxL : Nat} {ret : Option FieldType} {hh : List (Nat × Nat × Nat × Nat)}
    (hM : vx_Met l y ws rm Pc Qc XC mc ms free) (hblind : FrameBlind Pc) (hrc : rm.cells = mc) (hrs : rm.slots = ms)
    (hframes : rm.frames + 1 ≤ R.frames) (hlocals : W9 + (maxL + 11) + rm.locals ≤ R.locals)
    (hws : ∀ w ∈ ws, ∀ a' U, s.WarmedH U.vm → w.before a' U = true) (hcode : Cond.codeWith y bytes maxL ret hh ∈ ws) (hinit : ∀ a' U, s.WarmedH U.vm → (Cond.initialized y.cls).before a' U = true) :
    vx_Back l R p e below s sargs y len W9 (PreOf R mc ms Pc) (PostOf Qc mc ms free) (vx_Post XC mc ms free) := by
  intro m meth c A g ig mk a X hg hsize hdg hW hn hp
  have h1 : (headSpec ws rm).pre.before a A.U = true := atoms_intro fun w hw => hws w hw _ _ X.warmed
  have h2 : (Cond.codeWith y bytes maxL ret hh).before a A.U = true := hws _ hcode _ _ X.warmed
  have h3 : (Cond.initialized y.cls).before a A.U = true := hinit _ _ X.warmed
  have h4 : A.cells + (headSpec ws rm).room.cells ≤ R.cells := by rw [show (headSpec ws rm).room.cells = mc from hrc]; exact hp.1
  have h5 : A.slots + (headSpec ws rm).room.slots ≤ R.slots := by rw [show (headSpec ws rm).room.slots = ms from hrs]; exact hp.2.1
  have hPc : Pc a (A.U.calling g mk a) := hblind _ _ _ _ hp.2.2
  obtain ⟨U, Ls, c0, s0⟩ := A
  dsimp only [Pt.U, Pt.locs, Pt.cells, Pt.slots] at h1 h2 h3 h4 h5 X hn hPc ⊢
  obtain ⟨m9, methY, cY, hn9, hmY, hcY, -, hlY, -⟩ := Cond.codeWith_spec h2
  cases Option.some.inj (hn9.symm.trans hn)
  obtain ⟨kY, hkY, -⟩ := className_of_methodNamed hn
  have hinitY : kY.init = .initialized := Cond.initialized_spec (findClass_of_methodNamed hn) hkY h3
  have h : At U g.method c below := by rw [hg]; exact X.here
  have hlocals9 : W9 + (maxL + 11) + (headSpec ws rm).room.locals ≤ R.locals := hlocals
  have happ : (headSpec ws rm).appliesLoose y e.platform (U.calling g mk a) = true :=
    Spec.appliesLoose_calling (g := g) h hdg hn hkY hinitY
      (X.room_calling (g := g) (R' := (headSpec ws rm).room) hsize hmY hcY hframes (by rw [hlY]; omega) h4 h5) h1
  obtain ⟨mid, hmid⟩ := h.above
  have hfr : (U.setTop g).frames = (.java g :: mid) ++ below := by rw [State.frames_setTop' g h.top, hmid]; rfl
  obtain ⟨o, s₂, hsteps, -, hend, hq⟩ := Steps.callFree hM p X.admits X.cas X.clock (acts := []) hfr happ hPc trivial
  have hq' : vx_Q Qc XC mc ms free a (U.calling g mk a) o s₂ := hq
  rw [State.frames_setTop' g h.top] at hend
  obtain ⟨g₀, hg0⟩ := Option.isSome_iff_exists.mp h.top
  obtain ⟨r, hr⟩ := State.topJava?_eq_some.mp hg0
  have hr' : (({ U with heap := s₂.heap, slotsUsed := s₂.slotsUsed } : State).setVm s₂.vm).frames = .java g₀ :: r := hr
  rcases hq' with ⟨hqc, L, hfe, hL⟩ | ⟨q, rfl, E, ce, L, hx, hce, hcv, hcl, hW₂, hsm, hL⟩
  · obtain ⟨⟨v, rfl⟩, hW₂, e2, q2, q3, q4, q5, q6⟩ := id hfe
    have e3 : s₂ = ({ (U.calling g mk a).setFrames s₂.frames with heap := s₂.heap, slotsUsed := s₂.slotsUsed } : State).setVm s₂.vm := by
      have : s₂ = ({ s₂ with vm := (U.calling g mk a).vm } : State).setVm s₂.vm := rfl
      rw [e2] at this
      exact this
    obtain ⟨c₂, i₂, len₂, hc₂, hd₂, hf₂⟩ := hend
    have hW' : U.WarmedH s₂.vm := hW₂
    have hcc : c₂ = c := by
      have h1 : s₂.code? g.method = U.code? g.method := by
        rw [State.code?_eq, State.code?_eq, hW'.alike.method?]
      exact Option.some.inj (hc₂.symm.trans (h1.trans h.code))
    subst hcc
    have hlen : len₂ = len := by rw [hdg] at hd₂; cases hd₂; rfl
    subst hlen
    have hs₂ : s₂ = (({ U with heap := s₂.heap, slotsUsed := s₂.slotsUsed } : State).setVm s₂.vm).setTop { g with pc := g.pc + len₂, stack := v.toList ++ g.stack } := by
      refine e3.trans ?_
      rw [hf₂, State.calling_eq h.top, State.setFrames_setFrames, State.setTop_of_frames _ hr', hr]
      rfl
    have hsame : U.sameButNew ({ U with heap := s₂.heap, slotsUsed := s₂.slotsUsed } : State) L mc ms := by
      refine ⟨?_, q2, q3, q4, q5, q6⟩
      obtain ⟨t, ht, -⟩ := State.frames_cons hr
      show ({ U with heap := s₂.heap, slotsUsed := s₂.slotsUsed } : State) = { U.setFrames U.frames with heap := s₂.heap, slotsUsed := s₂.slotsUsed }
      rw [State.setFrames_self ht]
    subst hg
    refine Or.inl ⟨v, ⟨(({ U with heap := s₂.heap, slotsUsed := s₂.slotsUsed } : State).setVm s₂.vm), Ls ++ L, c0 + mc, s0 + ms⟩,
      ⟨X.admits, X.cas, X.clock, X.frames, X.room, X.hears, X.method, X.code, (X.here.setHeapUsed s₂.heap s₂.slotsUsed).setVm hW'.alike, X.tail, State.WarmedH.trans X.warmed hW', X.limits, X.bytes, X.same.trans (hsame.setVm s.vm)⟩,
      ⟨g, mk, s₂, L, rfl, rfl, hqc, rfl, hL, rfl, rfl⟩, ?_⟩
    show Steps p.tables e below _ ((({ U with heap := s₂.heap, slotsUsed := s₂.slotsUsed } : State).setVm s₂.vm).setTop { g with pc := g.pc + len₂, stack := v.toList ++ g.stack })
    rw [← hs₂]
    exact hsteps
  · obtain ⟨e2, q2, q3, q4, q5, q6⟩ := id hsm
    have e3 : s₂ = ({ (U.calling g mk a).setFrames s₂.frames with heap := s₂.heap, slotsUsed := s₂.slotsUsed } : State).setVm s₂.vm := by
      have : s₂ = ({ s₂ with vm := (U.calling g mk a).vm } : State).setVm s₂.vm := rfl
      rw [e2] at this
      exact this
    have hf₂ : s₂.frames = .throwing q :: .java g :: U.frames.tail := hend
    have hW' : U.WarmedH s₂.vm := hW₂
    have hs₂ : s₂ = ((({ U with heap := s₂.heap, slotsUsed := s₂.slotsUsed } : State).setVm s₂.vm).setTop g).pushFrame (.throwing q) := by
      refine e3.trans ?_
      rw [hf₂, State.calling_eq h.top, State.setFrames_setFrames, State.pushFrame, State.frames_setTop _ hr', State.setTop_of_frames _ hr', State.setFrames_setFrames, hr]
      rfl
    have hsame : U.sameButNew ({ U with heap := s₂.heap, slotsUsed := s₂.slotsUsed } : State) L mc ms := by
      refine ⟨?_, q2, q3, q4, q5, q6⟩
      obtain ⟨t, ht, -⟩ := State.frames_cons hr
      show ({ U with heap := s₂.heap, slotsUsed := s₂.slotsUsed } : State) = { U.setFrames U.frames with heap := s₂.heap, slotsUsed := s₂.slotsUsed }
      rw [State.setFrames_self ht]
    subst hg
    refine Or.inr ⟨q, ⟨(({ U with heap := s₂.heap, slotsUsed := s₂.slotsUsed } : State).setVm s₂.vm), Ls ++ L, c0 + mc, s0 + ms⟩,
      ⟨X.admits, X.cas, X.clock, X.frames, X.room, X.hears, X.method, X.code, (X.here.setHeapUsed s₂.heap s₂.slotsUsed).setVm hW'.alike, X.tail, State.WarmedH.trans X.warmed hW', X.limits, X.bytes, X.same.trans (hsame.setVm s.vm)⟩,
      ⟨g, mk, s₂, L, E, ce, rfl, rfl, hx, hce, hcv, hcl, rfl, hL, rfl, rfl⟩, ?_⟩
    show Steps p.tables e below _ (((({ U with heap := s₂.heap, slotsUsed := s₂.slotsUsed } : State).setVm s₂.vm).setTop g).pushFrame (.throwing q))
    rw [← hs₂]
    exact hsteps
end
variable {p : Program} {l : Launch} {e : Env} {R : Room} {s : State} {m : MethodId} {args : Array Value} {below : List Frame} {meth : Method} {c : Code} {T : State} {H : Heap} {locs : List Loc} {cells slots : Nat}
theorem vx_callVX (X : Stand p l e R s m args below meth c T locs cells slots) (hexec : p.tables.exec = Jvm.exec) {own C : String} {index : Nat} {y : MethodName} {bytes : ByteArray} {maxL : Nat} {ret : Option FieldType} {hh : List (Nat × Nat × Nat × Nat)}
    (hown : s.vm.findClass own = some m.cls) (hlink : (Cond.methodLink own index y).before args s = true) (hinst : (Cond.instanceMethod y).before args s = true) (hsel : (Cond.selects C y y).before args s = true)
    (hcode : (Cond.codeWith y bytes maxL ret hh).before args s = true) (hy : y.cls ≠ "java/lang/invoke/MethodHandle" ∧ y.cls ≠ "java/lang/invoke/VarHandle")
    {W9 : Nat} {Pre : Pt → Array Value → Prop} {Post : Pt → Array Value → Option Value → Pt → Prop} {PostX : Pt → Array Value → Addr → Pt → Prop} (hK : vx_Back l R p e below s args y 3 W9 Pre Post PostX)
    {b : Addr} {cellB : Cell} (hcell : T.heap[b]? = some cellB) (hobj : cellB.vm.isStatics = false) (hcls : s.vm.findClass C = some cellB.cls)
    {g : JFrame} (hg : g.method = m) (hsize : g.locals.size = c.maxLocals) {argsL rest : List Value} (hlen : ∀ sig, parseMethodDescriptor y.desc = some sig → argsL.length = sig.parameters.length)
    (hstack : g.stack = argsL.reverse ++ .ref b :: rest) (hW : 2 * g.monitorRoom + (rest.map fun v => v.category).sum ≤ W9) (hdg : decode c.code g.pc = .ok (.invokevirtual index, 3))
    (hpre : ∀ vm₁, s.WarmedH vm₁ → Pre ⟨T.setVm vm₁, locs, cells, slots⟩ (Value.ref b :: argsL).toArray) :
    (∃ (v : Option Value) (vm₁ : Vm) (B : Pt), s.WarmedH vm₁ ∧ Stand p l e R s m args below meth c B.U B.locs B.cells B.slots ∧ Post ⟨T.setVm vm₁, locs, cells, slots⟩ (Value.ref b :: argsL).toArray v B ∧
      ∀ target, Steps p.tables e below (B.U.setTop { g with pc := g.pc + 3, stack := v.toList ++ rest }) target → Steps p.tables e below (T.setTop g) target) ∨
    (∃ (q : Addr) (vm₁ : Vm) (B : Pt), s.WarmedH vm₁ ∧ Stand p l e R s m args below meth c B.U B.locs B.cells B.slots ∧ PostX ⟨T.setVm vm₁, locs, cells, slots⟩ (Value.ref b :: argsL).toArray q B ∧
      Steps p.tables e below (T.setTop g) ((B.U.setTop { g with stack := rest }).pushFrame (.throwing q))) := by
  obtain ⟨mk, methM, hnamed, hmethM, hstM, habM⟩ := Cond.instanceMethod_spec hinst
  obtain ⟨m8, methM', cM, hn8, hmethM', -, -, -, -, -, -, hsigM⟩ := Cond.codeWith_spec hcode
  cases Option.some.inj (hn8.symm.trans hnamed)
  cases hmethM.symm.trans hmethM'
  obtain ⟨c2, r2, m2, q1, q2, q3, q4, kP, hkP, hkPi⟩ := Cond.selects_spec hsel
  cases hcls.symm.trans q1
  cases (State.methodFound?_of_named hnamed hy).symm.trans q2
  cases hnamed.symm.trans q3
  have hselP : selectMethod e.platform s.vm cellB.cls mk = .method mk := by rw [Launch.admits_selectMethod X.admits]; exact q4
  obtain ⟨vm₁, X₁, hstep₁⟩ := X.invokevirtual hexec hown hlink hnamed hmethM hstM hkP hkPi hy (a := b) (cell := cellB) hcell
    (fun z h => by rw [h] at hobj; cases hobj) hselP hmethM habM hkP hkPi (g := g) hg (argsL := argsL) (rest := rest) (hlen _ hsigM) hstack hdg
  rcases hK m meth c ⟨T.setVm vm₁, locs, cells, slots⟩ { g with stack := rest } (.invokevirtual index) mk (Value.ref b :: argsL).toArray X₁ hg hsize hdg hW (X₁.named hnamed) (hpre vm₁ X₁.warmed) with ⟨v, B, X', hpost, hsteps⟩ | ⟨q, B, X', hpost, hsteps⟩
  · exact Or.inl ⟨v, vm₁, B, X₁.warmed, X', hpost, fun target h => hstep₁ _ fun acts => by rw [doInvoke_state]; exact hsteps.trans h⟩
  · exact Or.inr ⟨q, vm₁, B, X₁.warmed, X', hpost, hstep₁ _ fun acts => by rw [doInvoke_state]; exact hsteps⟩
theorem vx_callSX (X : Stand p l e R s m args below meth c T locs cells slots) (hexec : p.tables.exec = Jvm.exec) {own : String} {index : Nat} {y : MethodName} {bytes : ByteArray} {maxL : Nat} {ret : Option FieldType} {hh : List (Nat × Nat × Nat × Nat)}
    (hown : s.vm.findClass own = some m.cls) (hlink : (Cond.methodLink own index y).before args s = true) (hstat : (Cond.static y).before args s = true) (hinit : (Cond.initialized y.cls).before args s = true)
    (hcode : (Cond.codeWith y bytes maxL ret hh).before args s = true) (hy : y.cls ≠ "java/lang/invoke/MethodHandle" ∧ y.cls ≠ "java/lang/invoke/VarHandle")
    {W9 : Nat} {Pre : Pt → Array Value → Prop} {Post : Pt → Array Value → Option Value → Pt → Prop} {PostX : Pt → Array Value → Addr → Pt → Prop} (hK : vx_Back l R p e below s args y 3 W9 Pre Post PostX)
    {g : JFrame} (hg : g.method = m) (hsize : g.locals.size = c.maxLocals) {argsL rest : List Value} (hlen : ∀ sig, parseMethodDescriptor y.desc = some sig → argsL.length = sig.parameters.length)
    (hstack : g.stack = argsL.reverse ++ rest) (hW : 2 * g.monitorRoom + (rest.map fun v => v.category).sum ≤ W9) (hdg : decode c.code g.pc = .ok (.invokestatic index, 3))
    (hpre : ∀ vm₁, s.WarmedH vm₁ → Pre ⟨T.setVm vm₁, locs, cells, slots⟩ argsL.toArray) :
    (∃ (v : Option Value) (vm₁ : Vm) (B : Pt), s.WarmedH vm₁ ∧ Stand p l e R s m args below meth c B.U B.locs B.cells B.slots ∧ Post ⟨T.setVm vm₁, locs, cells, slots⟩ argsL.toArray v B ∧
      ∀ target, Steps p.tables e below (B.U.setTop { g with pc := g.pc + 3, stack := v.toList ++ rest }) target → Steps p.tables e below (T.setTop g) target) ∨
    (∃ (q : Addr) (vm₁ : Vm) (B : Pt), s.WarmedH vm₁ ∧ Stand p l e R s m args below meth c B.U B.locs B.cells B.slots ∧ PostX ⟨T.setVm vm₁, locs, cells, slots⟩ argsL.toArray q B ∧
      Steps p.tables e below (T.setTop g) ((B.U.setTop { g with stack := rest }).pushFrame (.throwing q))) := by
  obtain ⟨mk, methM, cM, hnamed, hmethM, -, -, -, -, -, -, hsigM⟩ := Cond.codeWith_spec hcode
  have hstatic : methM.isStatic = true := Cond.static_spec hnamed hmethM hstat
  obtain ⟨kP, hkP, -⟩ := className_of_methodNamed hnamed
  have hinitP : kP.init = .initialized := Cond.initialized_spec (findClass_of_methodNamed hnamed) hkP hinit
  obtain ⟨vm₁, X₁, hstep₁⟩ := X.invokestatic hexec hown hlink hnamed hmethM hstatic hkP hinitP hy (g := g) hg (argsL := argsL) (rest := rest) (hlen _ hsigM) hstack hdg
  rcases hK m meth c ⟨T.setVm vm₁, locs, cells, slots⟩ { g with stack := rest } (.invokestatic index) mk argsL.toArray X₁ hg hsize hdg hW (X₁.named hnamed) (hpre vm₁ X₁.warmed) with ⟨v, B, X', hpost, hsteps⟩ | ⟨q, B, X', hpost, hsteps⟩
  · exact Or.inl ⟨v, vm₁, B, X₁.warmed, X', hpost, fun target h => hstep₁ _ fun acts => by rw [doInvoke_state]; exact hsteps.trans h⟩
  · exact Or.inr ⟨q, vm₁, B, X₁.warmed, X', hpost, hstep₁ _ fun acts => by rw [doInvoke_state]; exact hsteps⟩
theorem vx_callVW (X : Stand p l e R s m args below meth c T locs cells slots) (hexec : p.tables.exec = Jvm.exec) {own C : String} {index : Nat} {y : MethodName} {bytes : ByteArray} {maxL : Nat} {ret : Option FieldType} {hh : List (Nat × Nat × Nat × Nat)}
    (hown : s.vm.findClass own = some m.cls) (hlink : (Cond.methodLink own index y).before args s = true) (hinst : (Cond.instanceMethod y).before args s = true) (hsel : (Cond.selects C y y).before args s = true)
    (hcode : (Cond.codeWith y bytes maxL ret hh).before args s = true) (hy : y.cls ≠ "java/lang/invoke/MethodHandle" ∧ y.cls ≠ "java/lang/invoke/VarHandle")
    {W9 : Nat} {Pre : Pt → Array Value → Prop} {Post : Pt → Array Value → Option Value → Pt → Prop} (hK : Back l R p e below s args y 3 W9 Pre Post)
    {b : Addr} {cellB : Cell} (hcell : T.heap[b]? = some cellB) (hobj : cellB.vm.isStatics = false) (hcls : s.vm.findClass C = some cellB.cls)
    {g : JFrame} (hg : g.method = m) (hsize : g.locals.size = c.maxLocals) {argsL rest : List Value} (hlen : ∀ sig, parseMethodDescriptor y.desc = some sig → argsL.length = sig.parameters.length)
    (hstack : g.stack = argsL.reverse ++ .ref b :: rest) (hW : 2 * g.monitorRoom + (rest.map fun v => v.category).sum ≤ W9) (hdg : decode c.code g.pc = .ok (.invokevirtual index, 3))
    (hpre : ∀ vm₁, s.WarmedH vm₁ → Pre ⟨T.setVm vm₁, locs, cells, slots⟩ (Value.ref b :: argsL).toArray) :
    ∃ (v : Option Value) (vm₁ : Vm) (B : Pt), s.WarmedH vm₁ ∧ Stand p l e R s m args below meth c B.U B.locs B.cells B.slots ∧ Post ⟨T.setVm vm₁, locs, cells, slots⟩ (Value.ref b :: argsL).toArray v B ∧
      ∀ target, Steps p.tables e below (B.U.setTop { g with pc := g.pc + 3, stack := v.toList ++ rest }) target → Steps p.tables e below (T.setTop g) target := by
  obtain ⟨mk, methM, hnamed, hmethM, hstM, habM⟩ := Cond.instanceMethod_spec hinst
  obtain ⟨m8, methM', cM, hn8, hmethM', -, -, -, -, -, -, hsigM⟩ := Cond.codeWith_spec hcode
  cases Option.some.inj (hn8.symm.trans hnamed)
  cases hmethM.symm.trans hmethM'
  obtain ⟨c2, r2, m2, q1, q2, q3, q4, kP, hkP, hkPi⟩ := Cond.selects_spec hsel
  cases hcls.symm.trans q1
  cases (State.methodFound?_of_named hnamed hy).symm.trans q2
  cases hnamed.symm.trans q3
  have hselP : selectMethod e.platform s.vm cellB.cls mk = .method mk := by rw [Launch.admits_selectMethod X.admits]; exact q4
  obtain ⟨vm₁, X₁, hstep₁⟩ := X.invokevirtual hexec hown hlink hnamed hmethM hstM hkP hkPi hy (a := b) (cell := cellB) hcell
    (fun z h => by rw [h] at hobj; cases hobj) hselP hmethM habM hkP hkPi (g := g) hg (argsL := argsL) (rest := rest) (hlen _ hsigM) hstack hdg
  obtain ⟨v, B, X', hpost, hsteps⟩ := hK m meth c ⟨T.setVm vm₁, locs, cells, slots⟩ { g with stack := rest } (.invokevirtual index) mk (Value.ref b :: argsL).toArray X₁ hg hsize hdg hW (X₁.named hnamed) (hpre vm₁ X₁.warmed)
  exact ⟨v, vm₁, B, X₁.warmed, X', hpost, fun target h => hstep₁ _ fun acts => by rw [doInvoke_state]; exact hsteps.trans h⟩
abbrev vx_CVW (R : Room) (s : State) (args : Array Value) (own C : String) (index : Nat) (y : MethodName) (bytes : ByteArray) (maxL : Nat) (ret : Option FieldType) (hh : List (Nat × Nat × Nat × Nat)) (ws : List Cond) (rm : Room) (mc ms n : Nat) : Prop :=
  (rm.cells = mc ∧ rm.slots = ms ∧ rm.frames + 1 ≤ R.frames ∧ 8 + (maxL + 11) + rm.locals ≤ R.locals ∧ (∀ w ∈ ws, ∀ (a' : Array Value) (U : State), s.WarmedH U.vm → w.before a' U = true) ∧ Cond.codeWith y bytes maxL ret hh ∈ ws) ∧
  (Cond.codeWith y bytes maxL ret hh).before args s = true ∧ (Cond.initialized y.cls).before args s = true ∧ (y.cls ≠ "java/lang/invoke/MethodHandle" ∧ y.cls ≠ "java/lang/invoke/VarHandle") ∧
  (∀ sig, parseMethodDescriptor y.desc = some sig → n = sig.parameters.length) ∧ (Cond.methodLink own index y).before args s = true ∧ (Cond.instanceMethod y).before args s = true ∧ (Cond.selects C y y).before args s = true
theorem vx_cwVW {own C : String} {index maxL mc ms : Nat} {y : MethodName} {bytes : ByteArray} {ret : Option FieldType} {hh : List (Nat × Nat × Nat × Nat)} {Ts ws ws' : List Cond} {rm : Room} (n : Nat) (ht : ∀ w ∈ Ts, w.before args s = true) (hT : GoodIn Ts (wsV own index C y ws)) (hw : ws = Cond.codeWith y bytes maxL ret hh :: ws') (hrc : rm.cells = mc) (hrs : rm.slots = ms)
    (hd : y.cls = C ∧ y.cls ≠ "java/lang/invoke/MethodHandle" ∧ y.cls ≠ "java/lang/invoke/VarHandle" ∧ (parseMethodDescriptor y.desc).map (fun d => d.parameters.length) = some n) (hR : rm.frames + 1 ≤ R.frames ∧ 8 + (maxL + 11) + rm.locals ≤ R.locals) :
    vx_CVW R s args own C index y bytes maxL ret hh ws rm mc ms n := by
  obtain ⟨hC, hd⟩ := hd
  subst hC
  have ok : ∀ w ∈ wsV own index y.cls y ws, w.before args s = true := fun w h => ht w (hT w h).1
  have hG : GoodIn Ts ws := fun w h => hT w (by unfold wsV; exact List.mem_append_right _ h)
  have hc : Cond.codeWith y bytes maxL ret hh ∈ ws := by rw [hw]; exact List.mem_cons_self
  refine ⟨⟨hrc, hrs, hR.1, hR.2, pay_in ht hG, hc⟩, ht _ (hG _ hc).1, ok _ (by simp [wsV]), ⟨hd.1, hd.2.1⟩, fun sig h => ?_, ok _ (by simp [wsV]), ok _ (by simp [wsV]), ok _ (by simp [wsV])⟩
  have h2 := hd.2.2
  rw [h] at h2
  exact (Option.some.inj h2).symm
theorem vx_runVW {y : MethodName} {bytes cc : ByteArray} {maxL nL mc ms n index : Nat} {ret : Option FieldType} {hh : List (Nat × Nat × Nat × Nat)} {ws : List Cond} {rm : Room} {Pc : Array Value → State → Prop} {Qc : Array Value → State → Outcome → State → Prop} {free : Addr → Prop} {Ts : List Cond} {own C : String} {b : Addr} {As rest : List Value} {g : JFrame}
    (S : CallFix p m c cc nL s args Ts own) (hM : Met l y ws rm Pc Qc mc ms free) (cw : vx_CVW R s args own C index y bytes maxL ret hh ws rm mc ms n) (hp : PreV s H C b Pc As)
    (hg : g.method = m) (hn : As.length = n) (hsize : g.locals.size = nL) (hstack : g.stack = As.reverse ++ .ref b :: rest) (hW : 2 * g.monitorRoom + (rest.map fun v => v.category).sum ≤ 8) (hdg : decode cc g.pc = .ok (.invokevirtual index, 3)) (hf : cells + mc ≤ R.cells ∧ slots + ms ≤ R.slots) :
    va_Run p l e R s m args below meth c H locs cells slots mc ms g rest (Qc (Value.ref b :: As).toArray) free := by
  obtain ⟨⟨hrc, hrs, hfr, hlo, hws, hcw⟩, hcode, hini, hy, hlen, hl, hin, hse⟩ := cw
  have hK : Back l R p e below s args y 3 8 (PreOf R mc ms Pc) (PostOf Qc mc ms free) := va_backW (hh := hh) (bytes := bytes) (maxL := maxL) (ret := ret) hM hp.1 hrc hrs hfr hlo hws hcw (fun a' U hW => word_at hW (Or.inl (by first | rfl | simp [Cond.onTables, Cond.keeps, Cond.steady])) hini)
  obtain ⟨hx, hb, hml, ho, -⟩ := S
  obtain ⟨-, ⟨cellB, hcB, hoB, hclB⟩, hPc⟩ := hp
  intro T hT X
  obtain ⟨v, vm₁, ⟨U', l2, c2, s2⟩, hW₁, X', ⟨g', mk, t, L, e1, e2, hq, h1, hL, h2, h3⟩, st⟩ := vx_callVW X hx (C := C) (hh := hh) (bytes := bytes) (maxL := maxL) (ret := ret) ho hl hin hse hcode hy hK (by rw [hT]; exact hcB) hoB hclB hg (hsize.trans hml.symm) (argsL := As) (rest := rest) (fun sig h => hn.trans (hlen sig h)) hstack hW (by rw [hb]; exact hdg)
    (fun vm₁ hW₁ => ⟨hf.1, hf.2, hPc (T.setVm vm₁) hT hW₁⟩)
  dsimp only [Pt.U, Pt.locs, Pt.cells, Pt.slots] at X' e1 e2 h1 h2 h3 st
  subst h1; subst h2; subst h3
  exact ⟨v, (T.setVm vm₁).calling g' mk (Value.ref b :: As).toArray, t, U', L, hT, X', hL, e1, e2, hq, st⟩
section
variable {y : MethodName} {bytes cc : ByteArray} {maxL nL mc ms n index : Nat} {ret : Option FieldType} {ws : List Cond} {rm : Room} {Pc : Array Value → State → Prop} {Qc : Array Value → State → Outcome → State → Prop} {XC : String → State → State → Prop} {free : Addr → Prop} {Ts : List Cond} {own C : String} {b : Addr} {As rest : List Value} {g : JFrame}
theorem vx_runVX {hh : List (Nat × Nat × Nat × Nat)} (S : CallFix p m c cc nL s args Ts own) (hM : vx_Met l y ws rm Pc Qc XC mc ms free) (cw : vx_CVW R s args own C index y bytes maxL ret hh ws rm mc ms n) (hp : PreV s H C b Pc As)
    (hg : g.method = m) (hn : As.length = n) (hsize : g.locals.size = nL) (hstack : g.stack = As.reverse ++ .ref b :: rest) (hW : 2 * g.monitorRoom + (rest.map fun v => v.category).sum ≤ 8) (hdg : decode cc g.pc = .ok (.invokevirtual index, 3)) (hf : cells + mc ≤ R.cells ∧ slots + ms ≤ R.slots) :
    vx_Run p l e R s m args below meth c H locs cells slots mc ms g rest (Qc (Value.ref b :: As).toArray) XC free := by
  obtain ⟨⟨hrc, hrs, hfr, hlo, hws, hcw⟩, hcode, hini, hy, hlen, hl, hin, hse⟩ := cw
  have hK : vx_Back l R p e below s args y 3 8 (PreOf R mc ms Pc) (PostOf Qc mc ms free) (vx_Post XC mc ms free) := vx_backW (hh := hh) (bytes := bytes) (maxL := maxL) (ret := ret) hM hp.1 hrc hrs hfr hlo hws hcw (fun a' U hW => word_at hW (Or.inl (by first | rfl | simp [Cond.onTables, Cond.keeps, Cond.steady])) hini)
  obtain ⟨hx, hb, hml, ho, -⟩ := S
  obtain ⟨-, ⟨cellB, hcB, hoB, hclB⟩, hPc⟩ := hp
  intro T hT X
  rcases vx_callVX X hx (C := C) (hh := hh) (bytes := bytes) (maxL := maxL) (ret := ret) ho hl hin hse hcode hy hK (by rw [hT]; exact hcB) hoB hclB hg (hsize.trans hml.symm) (argsL := As) (rest := rest) (fun sig h => hn.trans (hlen sig h)) hstack hW (by rw [hb]; exact hdg)
    (fun vm₁ hW₁ => ⟨hf.1, hf.2, hPc (T.setVm vm₁) hT hW₁⟩) with ⟨v, vm₁, ⟨U', l2, c2, s2⟩, hW₁, X', ⟨g', mk, t, L, e1, e2, hq, h1, hL, h2, h3⟩, st⟩ | ⟨q, vm₁, ⟨U', l2, c2, s2⟩, hW₁, X', ⟨g', mk, t, L, E, ce, e1, e2, hq, hce, hcv, hcl, h1, hL, h2, h3⟩, st⟩
  · dsimp only [Pt.U, Pt.locs, Pt.cells, Pt.slots] at X' e1 e2 h1 h2 h3 st
    subst h1; subst h2; subst h3
    exact Or.inl ⟨v, (T.setVm vm₁).calling g' mk (Value.ref b :: As).toArray, t, U', L, hT, X', hL, e1, e2, hq, st⟩
  · dsimp only [Pt.U, Pt.locs, Pt.cells, Pt.slots] at X' e1 e2 h1 h2 h3 st hcl
    subst h1; subst h2; subst h3
    exact Or.inr ⟨q, (T.setVm vm₁).calling g' mk (Value.ref b :: As).toArray, t, U', L, E, ce, hT, X', hL, e1, e2, hq, hce, hcv, vx_cls hW₁ hcl, st⟩
theorem vx_runSX {hh : List (Nat × Nat × Nat × Nat)} (S : CallFix p m c cc nL s args Ts own) (hM : vx_Met l y ws rm Pc Qc XC mc ms free) (cw : vx_CSW R s args own index y bytes maxL ret hh ws rm mc ms n) (hp : PreS s H Pc As)
    (hg : g.method = m) (hn : As.length = n) (hsize : g.locals.size = nL) (hstack : g.stack = As.reverse ++ rest) (hW : 2 * g.monitorRoom + (rest.map fun v => v.category).sum ≤ 8) (hdg : decode cc g.pc = .ok (.invokestatic index, 3)) (hf : cells + mc ≤ R.cells ∧ slots + ms ≤ R.slots) :
    vx_Run p l e R s m args below meth c H locs cells slots mc ms g rest (Qc As.toArray) XC free := by
  obtain ⟨⟨hrc, hrs, hfr, hlo, hws, hcw⟩, hcode, hini, hy, hlen, hl, hstt⟩ := cw
  have hK : vx_Back l R p e below s args y 3 8 (PreOf R mc ms Pc) (PostOf Qc mc ms free) (vx_Post XC mc ms free) := vx_backW (hh := hh) (bytes := bytes) (maxL := maxL) (ret := ret) hM hp.1 hrc hrs hfr hlo hws hcw (fun a' U hW => word_at hW (Or.inl (by first | rfl | simp [Cond.onTables, Cond.keeps, Cond.steady])) hini)
  obtain ⟨hx, hb, hml, ho, -⟩ := S
  intro T hT X
  rcases vx_callSX X hx (hh := hh) (bytes := bytes) (maxL := maxL) (ret := ret) ho hl hstt hini hcode hy hK hg (hsize.trans hml.symm) (argsL := As) (rest := rest) (fun sig h => hn.trans (hlen sig h)) hstack hW (by rw [hb]; exact hdg)
    (fun vm₁ hW₁ => ⟨hf.1, hf.2, hp.2 (T.setVm vm₁) hT hW₁⟩) with ⟨v, vm₁, ⟨U', l2, c2, s2⟩, hW₁, X', ⟨g', mk, t, L, e1, e2, hq, h1, hL, h2, h3⟩, st⟩ | ⟨q, vm₁, ⟨U', l2, c2, s2⟩, hW₁, X', ⟨g', mk, t, L, E, ce, e1, e2, hq, hce, hcv, hcl, h1, hL, h2, h3⟩, st⟩
  · dsimp only [Pt.U, Pt.locs, Pt.cells, Pt.slots] at X' e1 e2 h1 h2 h3 st
    subst h1; subst h2; subst h3
    exact Or.inl ⟨v, (T.setVm vm₁).calling g' mk As.toArray, t, U', L, hT, X', hL, e1, e2, hq, st⟩
  · dsimp only [Pt.U, Pt.locs, Pt.cells, Pt.slots] at X' e1 e2 h1 h2 h3 st hcl
    subst h1; subst h2; subst h3
    exact Or.inr ⟨q, (T.setVm vm₁).calling g' mk As.toArray, t, U', L, E, ce, hT, X', hL, e1, e2, hq, hce, hcv, vx_cls hW₁ hcl, st⟩
end
end VXH
theorem vx_ofWH {l : Launch} {y : MethodName} {ws ws' : List Cond} {rm : Room} {Pc : Array Value → State → Prop} {Qc : Array Value → State → Outcome → State → Prop} {XC : String → State → State → Prop} {mc ms : Nat} {free : Addr → Prop} {cc : ByteArray} {maxL : Nat} {ret : Option FieldType} {hh : List (Nat × Nat × Nat × Nat)}
    (hy : plainName y.cls = true) (hw : ws = Cond.codeWith y cc maxL ret hh :: ws')
    (body : ∀ p e s m args below meth c s₁, BodyLoose p l y (headSpec ws rm) cc maxL ret e s m args below meth c s₁ → c.maxLocals = maxL → Pc args s →
      W p l e (headSpec ws rm).room s m args below meth c s.heap [] 0 0 (vx_MQ below Qc XC args s mc ms free) (entryFrame m args maxL)) : vx_Met l y ws rm Pc Qc XC mc ms free := by
  refine MetFree.of_bodyS (code := cc) (maxLocals := maxL) (ret := ret) hy ?_ ?_
  · intro args s m h hn
    obtain ⟨m9, meth, c, hn9, h1, h2, h3, h4, -, h5, h6, -⟩ := Cond.codeWith_spec (atoms_spec (ws := ws) h _ (by rw [hw]; exact List.mem_cons_self))
    cases hn.symm.trans hn9
    exact ⟨meth, c, h1, h2, h3, h4, h5, h6⟩
  · intro p e s m args below meth c s₁ B hml hP _
    have hh0 : s₁.heap = s.heap := by rw [B.state]; rfl
    obtain ⟨t, a1, o, b1, b2, b3⟩ := body p e s m args below meth c s₁ B hml hP s₁ hh0 (Stand.of_body B)
    exact ⟨t, o, a1, b1, b2, b3⟩
/-! ===== END ===== -/
end
section
def RX0 : String := "PortolanHall$Chart"
def TX0 : u_T := fun k => match k with
  | 0 => ("PortolanHall$Chart", "year", "I", false)
  | 1 => ("PortolanHall$Chart", "x", "[I", true)
  | 2 => ("PortolanHall$Chart", "y", "[I", true)
  | 3 => ("PortolanHall$Chart", "name", "[I", true)
  | 4 => ("PortolanHall$Chart", "source", "[I", true)
  | 5 => ("PortolanHall$Chart", "scale", "[I", true)
  | _ => ("PortolanHall$Chart", "hasIsland", "[Z", true)
def tyX0 : Nat → FieldType := fun k => match k with
  | 0 => .int
  | 1 => .array .int
  | 2 => .array .int
  | 3 => .array .int
  | 4 => .array .int
  | 5 => .array .int
  | _ => .array .boolean
abbrev wsX00 : List Cond := u_ws RX0 TX0 7
theorem nmX0 : ∀ a, a < 7 → ∀ b, b < 7 → a ≠ b → (TX0 a).2.1 ≠ (TX0 b).2.1 := by decide +kernel
theorem tyX0_ok : ∀ k, k < 7 → parseFieldDescriptor (TX0 k).2.2.1 = some (tyX0 k) := by decide +kernel
abbrev cX0_init : ByteArray := prog_2_method_1_code
def yX0_init : MethodName := ⟨RX0, "<init>", "()V"⟩
abbrev cX0_knows : ByteArray := prog_2_method_2_code
def yX0_knows : MethodName := ⟨RX0, "knows", "(I)Z"⟩
abbrev cX0_put : ByteArray := prog_2_method_3_code
def yX0_put : MethodName := ⟨RX0, "put", "(IIII)V"⟩
abbrev cX0_forget : ByteArray := prog_2_method_4_code
def yX0_forget : MethodName := ⟨RX0, "forget", "(I)V"⟩
abbrev cX0_takeFrame : ByteArray := prog_2_method_5_code
def yX0_takeFrame : MethodName := ⟨RX0, "takeFrame", "(LPortolanHall$Chart;)V"⟩
abbrev cX0_knownFrom : ByteArray := prog_2_method_6_code
def yX0_knownFrom : MethodName := ⟨RX0, "knownFrom", "(II)I"⟩
abbrev cX0_islandCount : ByteArray := prog_2_method_7_code
def yX0_islandCount : MethodName := ⟨RX0, "islandCount", "()I"⟩
abbrev cX0_islandsWith : ByteArray := prog_2_method_8_code
def yX0_islandsWith : MethodName := ⟨RX0, "islandsWith", "(LPortolanHall$Chart;)I"⟩
abbrev cX0_fitsMoved : ByteArray := prog_2_method_9_code
def yX0_fitsMoved : MethodName := ⟨RX0, "fitsMoved", "(IIII)Z"⟩
abbrev cX0_fitsShrunk : ByteArray := prog_2_method_10_code
def yX0_fitsShrunk : MethodName := ⟨RX0, "fitsShrunk", "(II)Z"⟩
abbrev cX0_shrinkPlaces : ByteArray := prog_2_method_11_code
def yX0_shrinkPlaces : MethodName := ⟨RX0, "shrinkPlaces", "(II)V"⟩
abbrev cX0_shrunk : ByteArray := prog_2_method_12_code
def yX0_shrunk : MethodName := ⟨RX0, "shrunk", "(II)I"⟩
abbrev cX0_isPlace : ByteArray := prog_2_method_13_code
def yX0_isPlace : MethodName := ⟨RX0, "isPlace", "(II)Z"⟩
def RX1 : String := "PortolanHall$Coast"
def TX1 : u_T := fun k => match k with
  | 0 => ("PortolanHall$Coast", "x", "[I", true)
  | 1 => ("PortolanHall$Coast", "y", "[I", true)
  | 2 => ("PortolanHall$Coast", "name", "[I", true)
  | _ => ("PortolanHall$Coast", "year", "[I", true)
def tyX1 : Nat → FieldType := fun k => match k with
  | 0 => .array .int
  | 1 => .array .int
  | 2 => .array .int
  | _ => .array .int
abbrev wsX10 : List Cond := u_ws RX1 TX1 4
theorem nmX1 : ∀ a, a < 4 → ∀ b, b < 4 → a ≠ b → (TX1 a).2.1 ≠ (TX1 b).2.1 := by decide +kernel
theorem tyX1_ok : ∀ k, k < 4 → parseFieldDescriptor (TX1 k).2.2.1 = some (tyX1 k) := by decide +kernel
abbrev cX1_init : ByteArray := prog_3_method_1_code
def yX1_init : MethodName := ⟨RX1, "<init>", "()V"⟩
def RX2 : String := "PortolanHall$Copyist"
def TX2 : u_T := fun k => match k with
  | 0 => ("PortolanHall$Copyist", "hand", "I", false)
  | _ => ("PortolanHall$Copyist", "reading", "[I", true)
def tyX2 : Nat → FieldType := fun k => match k with
  | 0 => .int
  | _ => .array .int
abbrev wsX20 : List Cond := u_ws RX2 TX2 2
theorem nmX2 : ∀ a, a < 2 → ∀ b, b < 2 → a ≠ b → (TX2 a).2.1 ≠ (TX2 b).2.1 := by decide +kernel
theorem tyX2_ok : ∀ k, k < 2 → parseFieldDescriptor (TX2 k).2.2.1 = some (tyX2 k) := by decide +kernel
abbrev cX2_init : ByteArray := prog_4_method_1_code
def yX2_init : MethodName := ⟨RX2, "<init>", "()V"⟩
abbrev cX2_readingOf : ByteArray := prog_4_method_2_code
def yX2_readingOf : MethodName := ⟨RX2, "readingOf", "(I)I"⟩
def RX3 : String := "PortolanHall$Islands"
def TX3 : u_T := fun k => match k with
  | 0 => ("PortolanHall$Islands", "x", "[I", true)
  | 1 => ("PortolanHall$Islands", "y", "[I", true)
  | 2 => ("PortolanHall$Islands", "firstChart", "[I", true)
  | _ => ("PortolanHall$Islands", "count", "I", false)
def tyX3 : Nat → FieldType := fun k => match k with
  | 0 => .array .int
  | 1 => .array .int
  | 2 => .array .int
  | _ => .int
abbrev wsX30 : List Cond := u_ws RX3 TX3 4
theorem nmX3 : ∀ a, a < 4 → ∀ b, b < 4 → a ≠ b → (TX3 a).2.1 ≠ (TX3 b).2.1 := by decide +kernel
theorem tyX3_ok : ∀ k, k < 4 → parseFieldDescriptor (TX3 k).2.2.1 = some (tyX3 k) := by decide +kernel
abbrev cX3_init : ByteArray := prog_5_method_1_code
def yX3_init : MethodName := ⟨RX3, "<init>", "()V"⟩
def RX4 : String := "PortolanHall$Log"
def TX4 : u_T := fun k => match k with
  | 0 => ("PortolanHall$Log", "from", "[I", true)
  | 1 => ("PortolanHall$Log", "to", "[I", true)
  | 2 => ("PortolanHall$Log", "x", "[I", true)
  | 3 => ("PortolanHall$Log", "y", "[I", true)
  | _ => ("PortolanHall$Log", "count", "I", false)
def tyX4 : Nat → FieldType := fun k => match k with
  | 0 => .array .int
  | 1 => .array .int
  | 2 => .array .int
  | 3 => .array .int
  | _ => .int
abbrev wsX40 : List Cond := u_ws RX4 TX4 5
theorem nmX4 : ∀ a, a < 5 → ∀ b, b < 5 → a ≠ b → (TX4 a).2.1 ≠ (TX4 b).2.1 := by decide +kernel
theorem tyX4_ok : ∀ k, k < 5 → parseFieldDescriptor (TX4 k).2.2.1 = some (tyX4 k) := by decide +kernel
abbrev cX4_init : ByteArray := prog_6_method_1_code
def yX4_init : MethodName := ⟨RX4, "<init>", "()V"⟩
def RX5 : String := "PortolanHall$Pilots"
def TX5 : u_T := fun k => match k with
  | 0 => ("PortolanHall$Pilots", "turn", "[I", true)
  | 1 => ("PortolanHall$Pilots", "error", "[I", true)
  | _ => ("PortolanHall$Pilots", "count", "I", false)
def tyX5 : Nat → FieldType := fun k => match k with
  | 0 => .array .int
  | 1 => .array .int
  | _ => .int
abbrev wsX50 : List Cond := u_ws RX5 TX5 3
theorem nmX5 : ∀ a, a < 3 → ∀ b, b < 3 → a ≠ b → (TX5 a).2.1 ≠ (TX5 b).2.1 := by decide +kernel
theorem tyX5_ok : ∀ k, k < 3 → parseFieldDescriptor (TX5 k).2.2.1 = some (tyX5 k) := by decide +kernel
abbrev cX5_init : ByteArray := prog_7_method_1_code
def yX5_init : MethodName := ⟨RX5, "<init>", "()V"⟩
def RX6 : String := "PortolanHall$Round"
def TX6 : u_T := fun k => match k with
  | 0 => ("PortolanHall$Round", "sumX", "[I", true)
  | 1 => ("PortolanHall$Round", "sumY", "[I", true)
  | _ => ("PortolanHall$Round", "given", "[I", true)
def tyX6 : Nat → FieldType := fun k => match k with
  | 0 => .array .int
  | 1 => .array .int
  | _ => .array .int
abbrev wsX60 : List Cond := u_ws RX6 TX6 3
theorem nmX6 : ∀ a, a < 3 → ∀ b, b < 3 → a ≠ b → (TX6 a).2.1 ≠ (TX6 b).2.1 := by decide +kernel
theorem tyX6_ok : ∀ k, k < 3 → parseFieldDescriptor (TX6 k).2.2.1 = some (tyX6 k) := by decide +kernel
abbrev cX6_init : ByteArray := prog_8_method_1_code
def yX6_init : MethodName := ⟨RX6, "<init>", "()V"⟩
abbrev cX6_begin : ByteArray := prog_8_method_2_code
def yX6_begin : MethodName := ⟨RX6, "begin", "()V"⟩
abbrev cX6_give : ByteArray := prog_8_method_3_code
def yX6_give : MethodName := ⟨RX6, "give", "(III)V"⟩
abbrev cX6_settle : ByteArray := prog_8_method_4_code
def yX6_settle : MethodName := ⟨RX6, "settle", "(LPortolanHall$Chart;)Z"⟩
def RX7 : String := "PortolanHall"
def TX7 : u_T := fun k => match k with
  | 0 => ("PortolanHall", "truth", "LPortolanHall$Coast;", true)
  | 1 => ("PortolanHall", "pilots", "LPortolanHall$Pilots;", true)
  | 2 => ("PortolanHall", "log", "LPortolanHall$Log;", true)
  | 3 => ("PortolanHall", "round", "LPortolanHall$Round;", true)
  | 4 => ("PortolanHall", "copyists", "[LPortolanHall$Copyist;", true)
  | 5 => ("PortolanHall", "charts", "[LPortolanHall$Chart;", true)
  | 6 => ("PortolanHall", "islands", "LPortolanHall$Islands;", true)
  | _ => ("PortolanHall", "chartCount", "I", false)
def tyX7 : Nat → FieldType := fun k => match k with
  | 0 => .object "PortolanHall$Coast"
  | 1 => .object "PortolanHall$Pilots"
  | 2 => .object "PortolanHall$Log"
  | 3 => .object "PortolanHall$Round"
  | 4 => .array (.object "PortolanHall$Copyist")
  | 5 => .array (.object "PortolanHall$Chart")
  | 6 => .object "PortolanHall$Islands"
  | _ => .int
abbrev wsX70 : List Cond := u_ws RX7 TX7 8
theorem nmX7 : ∀ a, a < 8 → ∀ b, b < 8 → a ≠ b → (TX7 a).2.1 ≠ (TX7 b).2.1 := by decide +kernel
theorem tyX7_ok : ∀ k, k < 8 → parseFieldDescriptor (TX7 k).2.2.1 = some (tyX7 k) := by decide +kernel
abbrev cX7_init : ByteArray := prog_1_method_1_code
def yX7_init : MethodName := ⟨RX7, "<init>", "()V"⟩
abbrev cX7_coast : ByteArray := prog_1_method_2_code
def yX7_coast : MethodName := ⟨RX7, "coast", "(IIIII)V"⟩
abbrev cX7_pilot : ByteArray := prog_1_method_3_code
def yX7_pilot : MethodName := ⟨RX7, "pilot", "(II)I"⟩
abbrev cX7_report : ByteArray := prog_1_method_4_code
def yX7_report : MethodName := ⟨RX7, "report", "(III)I"⟩
abbrev cX7_chart : ByteArray := prog_1_method_5_code
def yX7_chart : MethodName := ⟨RX7, "chart", "(II)I"⟩
abbrev cX7_hand : ByteArray := prog_1_method_6_code
def yX7_hand : MethodName := ⟨RX7, "hand", "(II)I"⟩
abbrev cX7_reads : ByteArray := prog_1_method_7_code
def yX7_reads : MethodName := ⟨RX7, "reads", "(III)V"⟩
abbrev cX7_copy : ByteArray := prog_1_method_8_code
def yX7_copy : MethodName := ⟨RX7, "copy", "(IIII)I"⟩
abbrev cX7_paste : ByteArray := prog_1_method_9_code
def yX7_paste : MethodName := ⟨RX7, "paste", "(IIII)I"⟩
abbrev cX7_island : ByteArray := prog_1_method_10_code
def yX7_island : MethodName := ⟨RX7, "island", "(III)I"⟩
abbrev cX7_exchange : ByteArray := prog_1_method_11_code
def yX7_exchange : MethodName := ⟨RX7, "exchange", "(III)V"⟩
abbrev cX7_shrink : ByteArray := prog_1_method_12_code
def yX7_shrink : MethodName := ⟨RX7, "shrink", "(IIIZ)I"⟩
abbrev cX7_lose : ByteArray := prog_1_method_13_code
def yX7_lose : MethodName := ⟨RX7, "lose", "(III)I"⟩
abbrev cX7_paint : ByteArray := prog_1_method_14_code
def yX7_paint : MethodName := ⟨RX7, "paint", "(II)Z"⟩
abbrev cX7_told : ByteArray := prog_1_method_15_code
def yX7_told : MethodName := ⟨RX7, "told", "(IZ)I"⟩
abbrev cX7_at : ByteArray := prog_1_method_16_code
def yX7_at : MethodName := ⟨RX7, "at", "(III)I"⟩
abbrev cX7_chain : ByteArray := prog_1_method_17_code
def yX7_chain : MethodName := ⟨RX7, "chain", "(III)I"⟩
abbrev cX7_of : ByteArray := prog_1_method_18_code
def yX7_of : MethodName := ⟨RX7, "of", "(II)I"⟩
abbrev cX7_ofIsland : ByteArray := prog_1_method_19_code
def yX7_ofIsland : MethodName := ⟨RX7, "ofIsland", "(II)I"⟩
abbrev cX7_fit : ByteArray := prog_1_method_20_code
def yX7_fit : MethodName := ⟨RX7, "fit", "(III)I"⟩
abbrev cX7_shared : ByteArray := prog_1_method_21_code
def yX7_shared : MethodName := ⟨RX7, "shared", "(III)I"⟩
abbrev cX7_kin : ByteArray := prog_1_method_22_code
def yX7_kin : MethodName := ⟨RX7, "kin", "(II)I"⟩
abbrev cX7_date : ByteArray := prog_1_method_23_code
def yX7_date : MethodName := ⟨RX7, "date", "(II)I"⟩
abbrev cX7_isWithin : ByteArray := prog_1_method_24_code
def yX7_isWithin : MethodName := ⟨RX7, "isWithin", "(II)Z"⟩
abbrev cX7_isName : ByteArray := prog_1_method_25_code
def yX7_isName : MethodName := ⟨RX7, "isName", "(I)Z"⟩
abbrev cX7_isYear : ByteArray := prog_1_method_26_code
def yX7_isYear : MethodName := ⟨RX7, "isYear", "(I)Z"⟩
abbrev cX7_firstOf : ByteArray := prog_1_method_27_code
def yX7_firstOf : MethodName := ⟨RX7, "firstOf", "(I)I"⟩
abbrev cX7_lastOf : ByteArray := prog_1_method_28_code
def yX7_lastOf : MethodName := ⟨RX7, "lastOf", "(I)I"⟩
abbrev cX7_needPoint : ByteArray := prog_1_method_29_code
def yX7_needPoint : MethodName := ⟨RX7, "needPoint", "(I)V"⟩
abbrev cX7_needBasin : ByteArray := prog_1_method_30_code
def yX7_needBasin : MethodName := ⟨RX7, "needBasin", "(I)V"⟩
abbrev cX7_needIsland : ByteArray := prog_1_method_31_code
def yX7_needIsland : MethodName := ⟨RX7, "needIsland", "(I)V"⟩
abbrev cX7_needRoomForChart : ByteArray := prog_1_method_32_code
def yX7_needRoomForChart : MethodName := ⟨RX7, "needRoomForChart", "()V"⟩
abbrev cX7_chartOf : ByteArray := prog_1_method_33_code
def yX7_chartOf : MethodName := ⟨RX7, "chartOf", "(I)LPortolanHall$Chart;"⟩
abbrev cX7_copyistOf : ByteArray := prog_1_method_34_code
def yX7_copyistOf : MethodName := ⟨RX7, "copyistOf", "(I)LPortolanHall$Copyist;"⟩
abbrev cX7_layOut : ByteArray := prog_1_method_35_code
def yX7_layOut : MethodName := ⟨RX7, "layOut", "(LPortolanHall$Chart;I)V"⟩
abbrev cX7_gather : ByteArray := prog_1_method_36_code
def yX7_gather : MethodName := ⟨RX7, "gather", "(LPortolanHall$Chart;I)V"⟩
abbrev cX7_drawn : ByteArray := prog_1_method_37_code
def yX7_drawn : MethodName := ⟨RX7, "drawn", "(III)I"⟩
abbrev cX7_sourceOf : ByteArray := prog_1_method_38_code
def yX7_sourceOf : MethodName := ⟨RX7, "sourceOf", "(II)I"⟩
abbrev cX7_leadsBack : ByteArray := prog_1_method_39_code
def yX7_leadsBack : MethodName := ⟨RX7, "leadsBack", "(IIII)Z"⟩
abbrev cX7_errorOf : ByteArray := prog_1_method_40_code
def yX7_errorOf : MethodName := ⟨RX7, "errorOf", "(LPortolanHall$Chart;IZ)I"⟩
abbrev cX7_hasTrueName : ByteArray := prog_1_method_41_code
def yX7_hasTrueName : MethodName := ⟨RX7, "hasTrueName", "(LPortolanHall$Chart;I)Z"⟩
abbrev cX7_falseNames : ByteArray := prog_1_method_42_code
def yX7_falseNames : MethodName := ⟨RX7, "falseNames", "(LPortolanHall$Chart;)I"⟩
abbrev cX7_shift : ByteArray := prog_1_method_43_code
def yX7_shift : MethodName := ⟨RX7, "shift", "(LPortolanHall$Chart;IZ)I"⟩
abbrev cX7_residual : ByteArray := prog_1_method_44_code
def yX7_residual : MethodName := ⟨RX7, "residual", "(LPortolanHall$Chart;I)I"⟩
abbrev cX7_sharedBy : ByteArray := prog_1_method_45_code
def yX7_sharedBy : MethodName := ⟨RX7, "sharedBy", "(LPortolanHall$Chart;LPortolanHall$Chart;I)I"⟩
abbrev cX7_shareError : ByteArray := prog_1_method_46_code
def yX7_shareError : MethodName := ⟨RX7, "shareError", "(LPortolanHall$Chart;LPortolanHall$Chart;I)Z"⟩
abbrev cX7_chartsWith : ByteArray := prog_1_method_47_code
def yX7_chartsWith : MethodName := ⟨RX7, "chartsWith", "(I)I"⟩
abbrev cX7_highestChartWith : ByteArray := prog_1_method_48_code
def yX7_highestChartWith : MethodName := ⟨RX7, "highestChartWith", "(I)I"⟩
def RX8 : String := "PortolanHallModel"
def TX8 : u_T := fun k => match k with
  | 0 => ("PortolanHallModel", "thrown", "I", false)
  | 1 => ("PortolanHallModel", "coastX", "[I", true)
  | 2 => ("PortolanHallModel", "coastY", "[I", true)
  | 3 => ("PortolanHallModel", "coastNames", "[I", true)
  | 4 => ("PortolanHallModel", "founded", "[I", true)
  | 5 => ("PortolanHallModel", "pilots", "I", false)
  | 6 => ("PortolanHallModel", "turns", "[I", true)
  | 7 => ("PortolanHallModel", "errors", "[I", true)
  | 8 => ("PortolanHallModel", "reports", "I", false)
  | 9 => ("PortolanHallModel", "fromPoints", "[I", true)
  | 10 => ("PortolanHallModel", "toPoints", "[I", true)
  | 11 => ("PortolanHallModel", "toldX", "[I", true)
  | 12 => ("PortolanHallModel", "toldY", "[I", true)
  | 13 => ("PortolanHallModel", "charts", "I", false)
  | 14 => ("PortolanHallModel", "years", "[I", true)
  | 15 => ("PortolanHallModel", "scales", "[I", true)
  | 16 => ("PortolanHallModel", "areKnown", "[Z", true)
  | 17 => ("PortolanHallModel", "placesX", "[I", true)
  | 18 => ("PortolanHallModel", "placesY", "[I", true)
  | 19 => ("PortolanHallModel", "names", "[I", true)
  | 20 => ("PortolanHallModel", "sources", "[I", true)
  | 21 => ("PortolanHallModel", "hands", "[I", true)
  | 22 => ("PortolanHallModel", "readings", "[I", true)
  | 23 => ("PortolanHallModel", "islands", "I", false)
  | 24 => ("PortolanHallModel", "islandX", "[I", true)
  | 25 => ("PortolanHallModel", "islandY", "[I", true)
  | 26 => ("PortolanHallModel", "islandCharts", "[I", true)
  | 27 => ("PortolanHallModel", "areDrawn", "[Z", true)
  | 28 => ("PortolanHallModel", "wereKnown", "[Z", true)
  | 29 => ("PortolanHallModel", "sumsX", "[I", true)
  | 30 => ("PortolanHallModel", "sumsY", "[I", true)
  | 31 => ("PortolanHallModel", "counts", "[I", true)
  | 32 => ("PortolanHallModel", "shiftX", "I", false)
  | _ => ("PortolanHallModel", "shiftY", "I", false)
def tyX8 : Nat → FieldType := fun k => match k with
  | 0 => .int
  | 1 => .array .int
  | 2 => .array .int
  | 3 => .array .int
  | 4 => .array .int
  | 5 => .int
  | 6 => .array .int
  | 7 => .array .int
  | 8 => .int
  | 9 => .array .int
  | 10 => .array .int
  | 11 => .array .int
  | 12 => .array .int
  | 13 => .int
  | 14 => .array .int
  | 15 => .array .int
  | 16 => .array .boolean
  | 17 => .array .int
  | 18 => .array .int
  | 19 => .array .int
  | 20 => .array .int
  | 21 => .array .int
  | 22 => .array .int
  | 23 => .int
  | 24 => .array .int
  | 25 => .array .int
  | 26 => .array .int
  | 27 => .array .boolean
  | 28 => .array .boolean
  | 29 => .array .int
  | 30 => .array .int
  | 31 => .array .int
  | 32 => .int
  | _ => .int
abbrev wsX80 : List Cond := u_ws RX8 TX8 34
theorem nmX8 : ∀ a, a < 34 → ∀ b, b < 34 → a ≠ b → (TX8 a).2.1 ≠ (TX8 b).2.1 := by decide +kernel
theorem tyX8_ok : ∀ k, k < 34 → parseFieldDescriptor (TX8 k).2.2.1 = some (tyX8 k) := by decide +kernel
abbrev cX8_init : ByteArray := prog_10_method_1_code
def yX8_init : MethodName := ⟨RX8, "<init>", "()V"⟩
abbrev cX8_thrown : ByteArray := prog_10_method_2_code
def yX8_thrown : MethodName := ⟨RX8, "thrown", "()I"⟩
abbrev cX8_isIn : ByteArray := prog_10_method_3_code
def yX8_isIn : MethodName := ⟨RX8, "isIn", "(III)Z"⟩
abbrev cX8_isPoint : ByteArray := prog_10_method_4_code
def yX8_isPoint : MethodName := ⟨RX8, "isPoint", "(I)Z"⟩
abbrev cX8_isBasin : ByteArray := prog_10_method_5_code
def yX8_isBasin : MethodName := ⟨RX8, "isBasin", "(I)Z"⟩
abbrev cX8_isName : ByteArray := prog_10_method_6_code
def yX8_isName : MethodName := ⟨RX8, "isName", "(I)Z"⟩
abbrev cX8_isYear : ByteArray := prog_10_method_7_code
def yX8_isYear : MethodName := ⟨RX8, "isYear", "(I)Z"⟩
abbrev cX8_isChart : ByteArray := prog_10_method_8_code
def yX8_isChart : MethodName := ⟨RX8, "isChart", "(I)Z"⟩
abbrev cX8_isIsland : ByteArray := prog_10_method_9_code
def yX8_isIsland : MethodName := ⟨RX8, "isIsland", "(I)Z"⟩
abbrev cX8_coast : ByteArray := prog_10_method_10_code
def yX8_coast : MethodName := ⟨RX8, "coast", "(IIIII)V"⟩
abbrev cX8_pilot : ByteArray := prog_10_method_11_code
def yX8_pilot : MethodName := ⟨RX8, "pilot", "(II)I"⟩
abbrev cX8_report : ByteArray := prog_10_method_12_code
def yX8_report : MethodName := ⟨RX8, "report", "(III)I"⟩
abbrev cX8_spot : ByteArray := prog_10_method_13_code
def yX8_spot : MethodName := ⟨RX8, "spot", "(II)I"⟩
abbrev cX8_gives : ByteArray := prog_10_method_14_code
def yX8_gives : MethodName := ⟨RX8, "gives", "(IIII)V"⟩
abbrev cX8_rounds : ByteArray := prog_10_method_15_code
def yX8_rounds : MethodName := ⟨RX8, "rounds", "(I)Z"⟩
abbrev cX8_chart : ByteArray := prog_10_method_16_code
def yX8_chart : MethodName := ⟨RX8, "chart", "(II)I"⟩
abbrev cX8_isCopyist : ByteArray := prog_10_method_17_code
def yX8_isCopyist : MethodName := ⟨RX8, "isCopyist", "(I)Z"⟩
abbrev cX8_hand : ByteArray := prog_10_method_18_code
def yX8_hand : MethodName := ⟨RX8, "hand", "(II)I"⟩
abbrev cX8_reads : ByteArray := prog_10_method_19_code
def yX8_reads : MethodName := ⟨RX8, "reads", "(III)V"⟩
abbrev cX8_made : ByteArray := prog_10_method_20_code
def yX8_made : MethodName := ⟨RX8, "made", "(III)I"⟩
abbrev cX8_copy : ByteArray := prog_10_method_21_code
def yX8_copy : MethodName := ⟨RX8, "copy", "(IIII)I"⟩
abbrev cX8_isInChain : ByteArray := prog_10_method_22_code
def yX8_isInChain : MethodName := ⟨RX8, "isInChain", "(III)Z"⟩
abbrev cX8_next : ByteArray := prog_10_method_23_code
def yX8_next : MethodName := ⟨RX8, "next", "(II)I"⟩
abbrev cX8_isNear : ByteArray := prog_10_method_24_code
def yX8_isNear : MethodName := ⟨RX8, "isNear", "(III)Z"⟩
abbrev cX8_paste : ByteArray := prog_10_method_25_code
def yX8_paste : MethodName := ⟨RX8, "paste", "(IIII)I"⟩
abbrev cX8_island : ByteArray := prog_10_method_26_code
def yX8_island : MethodName := ⟨RX8, "island", "(III)I"⟩
abbrev cX8_exchange : ByteArray := prog_10_method_27_code
def yX8_exchange : MethodName := ⟨RX8, "exchange", "(III)V"⟩
abbrev cX8_canShrink : ByteArray := prog_10_method_28_code
def yX8_canShrink : MethodName := ⟨RX8, "canShrink", "(III)Z"⟩
abbrev cX8_shrink : ByteArray := prog_10_method_29_code
def yX8_shrink : MethodName := ⟨RX8, "shrink", "(IIIZ)I"⟩
abbrev cX8_lose : ByteArray := prog_10_method_30_code
def yX8_lose : MethodName := ⟨RX8, "lose", "(III)I"⟩
abbrev cX8_paint : ByteArray := prog_10_method_31_code
def yX8_paint : MethodName := ⟨RX8, "paint", "(II)Z"⟩
abbrev cX8_told : ByteArray := prog_10_method_32_code
def yX8_told : MethodName := ⟨RX8, "told", "(IZ)I"⟩
abbrev cX8_at : ByteArray := prog_10_method_33_code
def yX8_at : MethodName := ⟨RX8, "at", "(III)I"⟩
abbrev cX8_chain : ByteArray := prog_10_method_34_code
def yX8_chain : MethodName := ⟨RX8, "chain", "(III)I"⟩
abbrev cX8_of : ByteArray := prog_10_method_35_code
def yX8_of : MethodName := ⟨RX8, "of", "(II)I"⟩
abbrev cX8_ofIsland : ByteArray := prog_10_method_36_code
def yX8_ofIsland : MethodName := ⟨RX8, "ofIsland", "(II)I"⟩
abbrev cX8_size : ByteArray := prog_10_method_37_code
def yX8_size : MethodName := ⟨RX8, "size", "(I)I"⟩
abbrev cX8_shifts : ByteArray := prog_10_method_38_code
def yX8_shifts : MethodName := ⟨RX8, "shifts", "(II)V"⟩
abbrev cX8_fit : ByteArray := prog_10_method_39_code
def yX8_fit : MethodName := ⟨RX8, "fit", "(III)I"⟩
abbrev cX8_sharedBy : ByteArray := prog_10_method_40_code
def yX8_sharedBy : MethodName := ⟨RX8, "sharedBy", "(III)I"⟩
abbrev cX8_shared : ByteArray := prog_10_method_41_code
def yX8_shared : MethodName := ⟨RX8, "shared", "(III)I"⟩
abbrev cX8_kin : ByteArray := prog_10_method_42_code
def yX8_kin : MethodName := ⟨RX8, "kin", "(II)I"⟩
abbrev cX8_date : ByteArray := prog_10_method_43_code
def yX8_date : MethodName := ⟨RX8, "date", "(II)I"⟩
def RJ9 : String := "java/lang/Math"
def TJ9 : u_T := fun k => match k with
  | _ => ("", "", "", false)
def tyJ9 : Nat → FieldType := fun k => match k with
  | _ => .int
abbrev wsJ90 : List Cond := u_ws RJ9 TJ9 0
theorem nmJ9 : ∀ a, a < 0 → ∀ b, b < 0 → a ≠ b → (TJ9 a).2.1 ≠ (TJ9 b).2.1 := by decide +kernel
theorem tyJ9_ok : ∀ k, k < 0 → parseFieldDescriptor (TJ9 k).2.2.1 = some (tyJ9 k) := by decide +kernel
abbrev cJ9_abs_0f7a4 : ByteArray := prog_15_method_59_code
def yJ9_abs_0f7a4 : MethodName := ⟨RJ9, "abs", "(I)I"⟩
abbrev cJ9_max_7cf53 : ByteArray := prog_15_method_65_code
def yJ9_max_7cf53 : MethodName := ⟨RJ9, "max", "(II)I"⟩
def RJ0 : String := "java/lang/String"
def TJ0 : u_T := fun k => match k with
  | _ => ("", "", "", false)
def tyJ0 : Nat → FieldType := fun k => match k with
  | _ => .int
abbrev wsJ00 : List Cond := u_ws RJ0 TJ0 0
theorem nmJ0 : ∀ a, a < 0 → ∀ b, b < 0 → a ≠ b → (TJ0 a).2.1 ≠ (TJ0 b).2.1 := by decide +kernel
theorem tyJ0_ok : ∀ k, k < 0 → parseFieldDescriptor (TJ0 k).2.2.1 = some (tyJ0 k) := by decide +kernel
def RL : String := "PortolanHallLaw"
abbrev cL_coast : ByteArray := method_3_code
def yL_coast : MethodName := ⟨RL, "coast", "(LPortolanHall;IIIII)I"⟩
abbrev cL_pilot : ByteArray := method_4_code
def yL_pilot : MethodName := ⟨RL, "pilot", "(LPortolanHall;II[J)I"⟩
abbrev cL_report : ByteArray := method_5_code
def yL_report : MethodName := ⟨RL, "report", "(LPortolanHall;III[J)I"⟩
abbrev cL_chart : ByteArray := method_6_code
def yL_chart : MethodName := ⟨RL, "chart", "(LPortolanHall;II[J)I"⟩
abbrev cL_hand : ByteArray := method_7_code
def yL_hand : MethodName := ⟨RL, "hand", "(LPortolanHall;II[J)I"⟩
abbrev cL_reads : ByteArray := method_8_code
def yL_reads : MethodName := ⟨RL, "reads", "(LPortolanHall;III)I"⟩
abbrev cL_copy : ByteArray := method_9_code
def yL_copy : MethodName := ⟨RL, "copy", "(LPortolanHall;IIII[J)I"⟩
abbrev cL_paste : ByteArray := method_10_code
def yL_paste : MethodName := ⟨RL, "paste", "(LPortolanHall;IIII[J)I"⟩
abbrev cL_island : ByteArray := method_11_code
def yL_island : MethodName := ⟨RL, "island", "(LPortolanHall;III[J)I"⟩
abbrev cL_exchange : ByteArray := method_12_code
def yL_exchange : MethodName := ⟨RL, "exchange", "(LPortolanHall;III)I"⟩
abbrev cL_shrink : ByteArray := method_13_code
def yL_shrink : MethodName := ⟨RL, "shrink", "(LPortolanHall;IIIZ[J)I"⟩
abbrev cL_lose : ByteArray := method_14_code
def yL_lose : MethodName := ⟨RL, "lose", "(LPortolanHall;III[J)I"⟩
abbrev cL_paint : ByteArray := method_15_code
def yL_paint : MethodName := ⟨RL, "paint", "(LPortolanHall;II[J)I"⟩
abbrev cL_told : ByteArray := method_16_code
def yL_told : MethodName := ⟨RL, "told", "(LPortolanHall;IZ[J)I"⟩
abbrev cL_at : ByteArray := method_17_code
def yL_at : MethodName := ⟨RL, "at", "(LPortolanHall;III[J)I"⟩
abbrev cL_chain : ByteArray := method_18_code
def yL_chain : MethodName := ⟨RL, "chain", "(LPortolanHall;III[J)I"⟩
abbrev cL_of : ByteArray := method_19_code
def yL_of : MethodName := ⟨RL, "of", "(LPortolanHall;II[J)I"⟩
abbrev cL_ofIsland : ByteArray := method_20_code
def yL_ofIsland : MethodName := ⟨RL, "ofIsland", "(LPortolanHall;II[J)I"⟩
abbrev cL_fit : ByteArray := method_21_code
def yL_fit : MethodName := ⟨RL, "fit", "(LPortolanHall;III[J)I"⟩
abbrev cL_shared : ByteArray := method_22_code
def yL_shared : MethodName := ⟨RL, "shared", "(LPortolanHall;III[J)I"⟩
abbrev cL_kin : ByteArray := method_23_code
def yL_kin : MethodName := ⟨RL, "kin", "(LPortolanHall;II[J)I"⟩
abbrev cL_date : ByteArray := method_24_code
def yL_date : MethodName := ⟨RL, "date", "(LPortolanHall;II[J)I"⟩
abbrev cL_law : ByteArray := code
def yL_law : MethodName := ⟨RL, "law", "([I)Z"⟩
abbrev vwCl : List vw_C := [(RX0, TX0, 7), (RX1, TX1, 4), (RX2, TX2, 2), (RX3, TX3, 4), (RX4, TX4, 5), (RX5, TX5, 3), (RX6, TX6, 3), (RX7, TX7, 8), (RX8, TX8, 34)]
end
section
theorem dX0_init_0 : decode cX0_init 0 = .ok (.aload_n 0, 1) := by decide +kernel
theorem dX0_init_1 : decode cX0_init 1 = .ok (.invokespecial 3, 3) := by decide +kernel
theorem dX0_init_4 : decode cX0_init 4 = .ok (.aload_n 0, 1) := by decide +kernel
theorem dX0_init_5 : decode cX0_init 5 = .ok (.iconst 0, 1) := by decide +kernel
theorem dX0_init_6 : decode cX0_init 6 = .ok (.putfield 9, 3) := by decide +kernel
theorem dX0_init_9 : decode cX0_init 9 = .ok (.aload_n 0, 1) := by decide +kernel
theorem dX0_init_10 : decode cX0_init 10 = .ok (.bipush 24, 2) := by decide +kernel
theorem dX0_init_12 : decode cX0_init 12 = .ok (.newarray .int, 2) := by decide +kernel
theorem dX0_init_14 : decode cX0_init 14 = .ok (.putfield 15, 3) := by decide +kernel
theorem dX0_init_17 : decode cX0_init 17 = .ok (.aload_n 0, 1) := by decide +kernel
theorem dX0_init_18 : decode cX0_init 18 = .ok (.bipush 24, 2) := by decide +kernel
theorem dX0_init_20 : decode cX0_init 20 = .ok (.newarray .int, 2) := by decide +kernel
theorem dX0_init_22 : decode cX0_init 22 = .ok (.putfield 19, 3) := by decide +kernel
theorem dX0_init_25 : decode cX0_init 25 = .ok (.aload_n 0, 1) := by decide +kernel
theorem dX0_init_26 : decode cX0_init 26 = .ok (.bipush 24, 2) := by decide +kernel
theorem dX0_init_28 : decode cX0_init 28 = .ok (.newarray .int, 2) := by decide +kernel
theorem dX0_init_30 : decode cX0_init 30 = .ok (.putfield 22, 3) := by decide +kernel
theorem dX0_init_33 : decode cX0_init 33 = .ok (.aload_n 0, 1) := by decide +kernel
theorem dX0_init_34 : decode cX0_init 34 = .ok (.bipush 24, 2) := by decide +kernel
theorem dX0_init_36 : decode cX0_init 36 = .ok (.newarray .int, 2) := by decide +kernel
theorem dX0_init_38 : decode cX0_init 38 = .ok (.putfield 25, 3) := by decide +kernel
theorem dX0_init_41 : decode cX0_init 41 = .ok (.aload_n 0, 1) := by decide +kernel
theorem dX0_init_42 : decode cX0_init 42 = .ok (.iconst 3, 1) := by decide +kernel
theorem dX0_init_43 : decode cX0_init 43 = .ok (.newarray .int, 2) := by decide +kernel
theorem dX0_init_45 : decode cX0_init 45 = .ok (.putfield 28, 3) := by decide +kernel
theorem dX0_init_48 : decode cX0_init 48 = .ok (.aload_n 0, 1) := by decide +kernel
theorem dX0_init_49 : decode cX0_init 49 = .ok (.bipush 20, 2) := by decide +kernel
theorem dX0_init_51 : decode cX0_init 51 = .ok (.newarray .boolean, 2) := by decide +kernel
theorem dX0_init_53 : decode cX0_init 53 = .ok (.putfield 31, 3) := by decide +kernel
theorem dX0_init_56 : decode cX0_init 56 = .ok (.return_, 1) := by decide +kernel
theorem dX0_knows_0 : decode cX0_knows 0 = .ok (.aload_n 0, 1) := by decide +kernel
theorem dX0_knows_1 : decode cX0_knows 1 = .ok (.getfield 15, 3) := by decide +kernel
theorem dX0_knows_4 : decode cX0_knows 4 = .ok (.iload_n 1, 1) := by decide +kernel
theorem dX0_knows_5 : decode cX0_knows 5 = .ok (.iaload, 1) := by decide +kernel
theorem dX0_knows_6 : decode cX0_knows 6 = .ok (.ldc 35, 2) := by decide +kernel
theorem dX0_knows_8 : decode cX0_knows 8 = .ok (.if_icmp .eq 7, 3) := by decide +kernel
theorem dX0_knows_11 : decode cX0_knows 11 = .ok (.iconst 1, 1) := by decide +kernel
theorem dX0_knows_12 : decode cX0_knows 12 = .ok (.goto 4, 3) := by decide +kernel
theorem dX0_knows_15 : decode cX0_knows 15 = .ok (.iconst 0, 1) := by decide +kernel
theorem dX0_knows_16 : decode cX0_knows 16 = .ok (.ireturn, 1) := by decide +kernel
theorem dX0_put_0 : decode cX0_put 0 = .ok (.aload_n 0, 1) := by decide +kernel
theorem dX0_put_1 : decode cX0_put 1 = .ok (.getfield 15, 3) := by decide +kernel
theorem dX0_put_4 : decode cX0_put 4 = .ok (.iload_n 1, 1) := by decide +kernel
theorem dX0_put_5 : decode cX0_put 5 = .ok (.iload_n 2, 1) := by decide +kernel
theorem dX0_put_6 : decode cX0_put 6 = .ok (.iastore, 1) := by decide +kernel
theorem dX0_put_7 : decode cX0_put 7 = .ok (.aload_n 0, 1) := by decide +kernel
theorem dX0_put_8 : decode cX0_put 8 = .ok (.getfield 19, 3) := by decide +kernel
theorem dX0_put_11 : decode cX0_put 11 = .ok (.iload_n 1, 1) := by decide +kernel
theorem dX0_put_12 : decode cX0_put 12 = .ok (.iload_n 3, 1) := by decide +kernel
theorem dX0_put_13 : decode cX0_put 13 = .ok (.iastore, 1) := by decide +kernel
theorem dX0_put_14 : decode cX0_put 14 = .ok (.aload_n 0, 1) := by decide +kernel
theorem dX0_put_15 : decode cX0_put 15 = .ok (.getfield 25, 3) := by decide +kernel
theorem dX0_put_18 : decode cX0_put 18 = .ok (.iload_n 1, 1) := by decide +kernel
theorem dX0_put_19 : decode cX0_put 19 = .ok (.iload 4, 2) := by decide +kernel
theorem dX0_put_21 : decode cX0_put 21 = .ok (.iastore, 1) := by decide +kernel
theorem dX0_put_22 : decode cX0_put 22 = .ok (.return_, 1) := by decide +kernel
theorem dX0_forget_0 : decode cX0_forget 0 = .ok (.aload_n 0, 1) := by decide +kernel
theorem dX0_forget_1 : decode cX0_forget 1 = .ok (.iload_n 1, 1) := by decide +kernel
theorem dX0_forget_2 : decode cX0_forget 2 = .ok (.ldc 35, 2) := by decide +kernel
theorem dX0_forget_4 : decode cX0_forget 4 = .ok (.ldc 35, 2) := by decide +kernel
theorem dX0_forget_6 : decode cX0_forget 6 = .ok (.iconst (-1), 1) := by decide +kernel
theorem dX0_forget_7 : decode cX0_forget 7 = .ok (.invokevirtual 36, 3) := by decide +kernel
theorem dX0_forget_10 : decode cX0_forget 10 = .ok (.return_, 1) := by decide +kernel
theorem dX0_takeFrame_0 : decode cX0_takeFrame 0 = .ok (.iconst 0, 1) := by decide +kernel
theorem dX0_takeFrame_1 : decode cX0_takeFrame 1 = .ok (.istore_n 2, 1) := by decide +kernel
theorem dX0_takeFrame_2 : decode cX0_takeFrame 2 = .ok (.iload_n 2, 1) := by decide +kernel
theorem dX0_takeFrame_3 : decode cX0_takeFrame 3 = .ok (.iconst 3, 1) := by decide +kernel
theorem dX0_takeFrame_4 : decode cX0_takeFrame 4 = .ok (.if_icmp .ge 21, 3) := by decide +kernel
theorem dX0_takeFrame_7 : decode cX0_takeFrame 7 = .ok (.aload_n 0, 1) := by decide +kernel
theorem dX0_takeFrame_8 : decode cX0_takeFrame 8 = .ok (.getfield 28, 3) := by decide +kernel
theorem dX0_takeFrame_11 : decode cX0_takeFrame 11 = .ok (.iload_n 2, 1) := by decide +kernel
theorem dX0_takeFrame_12 : decode cX0_takeFrame 12 = .ok (.aload_n 1, 1) := by decide +kernel
theorem dX0_takeFrame_13 : decode cX0_takeFrame 13 = .ok (.getfield 28, 3) := by decide +kernel
theorem dX0_takeFrame_16 : decode cX0_takeFrame 16 = .ok (.iload_n 2, 1) := by decide +kernel
theorem dX0_takeFrame_17 : decode cX0_takeFrame 17 = .ok (.iaload, 1) := by decide +kernel
theorem dX0_takeFrame_18 : decode cX0_takeFrame 18 = .ok (.iastore, 1) := by decide +kernel
theorem dX0_takeFrame_19 : decode cX0_takeFrame 19 = .ok (.iinc 2 1, 3) := by decide +kernel
theorem dX0_takeFrame_22 : decode cX0_takeFrame 22 = .ok (.goto (-20), 3) := by decide +kernel
theorem dX0_takeFrame_25 : decode cX0_takeFrame 25 = .ok (.iconst 0, 1) := by decide +kernel
theorem dX0_takeFrame_26 : decode cX0_takeFrame 26 = .ok (.istore_n 2, 1) := by decide +kernel
theorem dX0_takeFrame_27 : decode cX0_takeFrame 27 = .ok (.iload_n 2, 1) := by decide +kernel
theorem dX0_takeFrame_28 : decode cX0_takeFrame 28 = .ok (.bipush 20, 2) := by decide +kernel
theorem dX0_takeFrame_30 : decode cX0_takeFrame 30 = .ok (.if_icmp .ge 21, 3) := by decide +kernel
theorem dX0_takeFrame_33 : decode cX0_takeFrame 33 = .ok (.aload_n 0, 1) := by decide +kernel
theorem dX0_takeFrame_34 : decode cX0_takeFrame 34 = .ok (.getfield 31, 3) := by decide +kernel
theorem dX0_takeFrame_37 : decode cX0_takeFrame 37 = .ok (.iload_n 2, 1) := by decide +kernel
theorem dX0_takeFrame_38 : decode cX0_takeFrame 38 = .ok (.aload_n 1, 1) := by decide +kernel
theorem dX0_takeFrame_39 : decode cX0_takeFrame 39 = .ok (.getfield 31, 3) := by decide +kernel
theorem dX0_takeFrame_42 : decode cX0_takeFrame 42 = .ok (.iload_n 2, 1) := by decide +kernel
theorem dX0_takeFrame_43 : decode cX0_takeFrame 43 = .ok (.baload, 1) := by decide +kernel
theorem dX0_takeFrame_44 : decode cX0_takeFrame 44 = .ok (.bastore, 1) := by decide +kernel
theorem dX0_takeFrame_45 : decode cX0_takeFrame 45 = .ok (.iinc 2 1, 3) := by decide +kernel
theorem dX0_takeFrame_48 : decode cX0_takeFrame 48 = .ok (.goto (-21), 3) := by decide +kernel
theorem dX0_takeFrame_51 : decode cX0_takeFrame 51 = .ok (.return_, 1) := by decide +kernel
theorem dX0_knownFrom_0 : decode cX0_knownFrom 0 = .ok (.iconst 0, 1) := by decide +kernel
theorem dX0_knownFrom_1 : decode cX0_knownFrom 1 = .ok (.istore_n 3, 1) := by decide +kernel
theorem dX0_knownFrom_2 : decode cX0_knownFrom 2 = .ok (.iload_n 1, 1) := by decide +kernel
theorem dX0_knownFrom_3 : decode cX0_knownFrom 3 = .ok (.istore 4, 2) := by decide +kernel
theorem dX0_knownFrom_5 : decode cX0_knownFrom 5 = .ok (.iload 4, 2) := by decide +kernel
theorem dX0_knownFrom_7 : decode cX0_knownFrom 7 = .ok (.iload_n 2, 1) := by decide +kernel
theorem dX0_knownFrom_8 : decode cX0_knownFrom 8 = .ok (.if_icmp .gt 21, 3) := by decide +kernel
theorem dX0_knownFrom_11 : decode cX0_knownFrom 11 = .ok (.aload_n 0, 1) := by decide +kernel
theorem dX0_knownFrom_12 : decode cX0_knownFrom 12 = .ok (.iload 4, 2) := by decide +kernel
theorem dX0_knownFrom_14 : decode cX0_knownFrom 14 = .ok (.invokevirtual 40, 3) := by decide +kernel
theorem dX0_knownFrom_17 : decode cX0_knownFrom 17 = .ok (.ifCond .eq 6, 3) := by decide +kernel
theorem dX0_knownFrom_20 : decode cX0_knownFrom 20 = .ok (.iinc 3 1, 3) := by decide +kernel
theorem dX0_knownFrom_23 : decode cX0_knownFrom 23 = .ok (.iinc 4 1, 3) := by decide +kernel
theorem dX0_knownFrom_26 : decode cX0_knownFrom 26 = .ok (.goto (-21), 3) := by decide +kernel
theorem dX0_knownFrom_29 : decode cX0_knownFrom 29 = .ok (.iload_n 3, 1) := by decide +kernel
theorem dX0_knownFrom_30 : decode cX0_knownFrom 30 = .ok (.ireturn, 1) := by decide +kernel
theorem dX0_islandCount_0 : decode cX0_islandCount 0 = .ok (.aload_n 0, 1) := by decide +kernel
theorem dX0_islandCount_1 : decode cX0_islandCount 1 = .ok (.aload_n 0, 1) := by decide +kernel
theorem dX0_islandCount_2 : decode cX0_islandCount 2 = .ok (.invokevirtual 44, 3) := by decide +kernel
theorem dX0_islandCount_5 : decode cX0_islandCount 5 = .ok (.ireturn, 1) := by decide +kernel
theorem dX0_islandsWith_0 : decode cX0_islandsWith 0 = .ok (.iconst 0, 1) := by decide +kernel
theorem dX0_islandsWith_1 : decode cX0_islandsWith 1 = .ok (.istore_n 2, 1) := by decide +kernel
theorem dX0_islandsWith_2 : decode cX0_islandsWith 2 = .ok (.iconst 0, 1) := by decide +kernel
theorem dX0_islandsWith_3 : decode cX0_islandsWith 3 = .ok (.istore_n 3, 1) := by decide +kernel
theorem dX0_islandsWith_4 : decode cX0_islandsWith 4 = .ok (.iload_n 3, 1) := by decide +kernel
theorem dX0_islandsWith_5 : decode cX0_islandsWith 5 = .ok (.bipush 20, 2) := by decide +kernel
theorem dX0_islandsWith_7 : decode cX0_islandsWith 7 = .ok (.if_icmp .ge 30, 3) := by decide +kernel
theorem dX0_islandsWith_10 : decode cX0_islandsWith 10 = .ok (.aload_n 0, 1) := by decide +kernel
theorem dX0_islandsWith_11 : decode cX0_islandsWith 11 = .ok (.getfield 31, 3) := by decide +kernel
theorem dX0_islandsWith_14 : decode cX0_islandsWith 14 = .ok (.iload_n 3, 1) := by decide +kernel
theorem dX0_islandsWith_15 : decode cX0_islandsWith 15 = .ok (.baload, 1) := by decide +kernel
theorem dX0_islandsWith_16 : decode cX0_islandsWith 16 = .ok (.ifCond .eq 15, 3) := by decide +kernel
theorem dX0_islandsWith_19 : decode cX0_islandsWith 19 = .ok (.aload_n 1, 1) := by decide +kernel
theorem dX0_islandsWith_20 : decode cX0_islandsWith 20 = .ok (.getfield 31, 3) := by decide +kernel
theorem dX0_islandsWith_23 : decode cX0_islandsWith 23 = .ok (.iload_n 3, 1) := by decide +kernel
theorem dX0_islandsWith_24 : decode cX0_islandsWith 24 = .ok (.baload, 1) := by decide +kernel
theorem dX0_islandsWith_25 : decode cX0_islandsWith 25 = .ok (.ifCond .eq 6, 3) := by decide +kernel
theorem dX0_islandsWith_28 : decode cX0_islandsWith 28 = .ok (.iinc 2 1, 3) := by decide +kernel
theorem dX0_islandsWith_31 : decode cX0_islandsWith 31 = .ok (.iinc 3 1, 3) := by decide +kernel
theorem dX0_islandsWith_34 : decode cX0_islandsWith 34 = .ok (.goto (-30), 3) := by decide +kernel
theorem dX0_islandsWith_37 : decode cX0_islandsWith 37 = .ok (.iload_n 2, 1) := by decide +kernel
theorem dX0_islandsWith_38 : decode cX0_islandsWith 38 = .ok (.ireturn, 1) := by decide +kernel
theorem dX0_fitsMoved_0 : decode cX0_fitsMoved 0 = .ok (.iload_n 1, 1) := by decide +kernel
theorem dX0_fitsMoved_1 : decode cX0_fitsMoved 1 = .ok (.istore 5, 2) := by decide +kernel
theorem dX0_fitsMoved_3 : decode cX0_fitsMoved 3 = .ok (.iload 5, 2) := by decide +kernel
theorem dX0_fitsMoved_5 : decode cX0_fitsMoved 5 = .ok (.iload_n 2, 1) := by decide +kernel
theorem dX0_fitsMoved_6 : decode cX0_fitsMoved 6 = .ok (.if_icmp .gt 45, 3) := by decide +kernel
theorem dX0_fitsMoved_9 : decode cX0_fitsMoved 9 = .ok (.aload_n 0, 1) := by decide +kernel
theorem dX0_fitsMoved_10 : decode cX0_fitsMoved 10 = .ok (.iload 5, 2) := by decide +kernel
theorem dX0_fitsMoved_12 : decode cX0_fitsMoved 12 = .ok (.invokevirtual 40, 3) := by decide +kernel
theorem dX0_fitsMoved_15 : decode cX0_fitsMoved 15 = .ok (.ifCond .eq 30, 3) := by decide +kernel
theorem dX0_fitsMoved_18 : decode cX0_fitsMoved 18 = .ok (.aload_n 0, 1) := by decide +kernel
theorem dX0_fitsMoved_19 : decode cX0_fitsMoved 19 = .ok (.getfield 15, 3) := by decide +kernel
theorem dX0_fitsMoved_22 : decode cX0_fitsMoved 22 = .ok (.iload 5, 2) := by decide +kernel
theorem dX0_fitsMoved_24 : decode cX0_fitsMoved 24 = .ok (.iaload, 1) := by decide +kernel
theorem dX0_fitsMoved_25 : decode cX0_fitsMoved 25 = .ok (.iload_n 3, 1) := by decide +kernel
theorem dX0_fitsMoved_26 : decode cX0_fitsMoved 26 = .ok (.iadd, 1) := by decide +kernel
theorem dX0_fitsMoved_27 : decode cX0_fitsMoved 27 = .ok (.aload_n 0, 1) := by decide +kernel
theorem dX0_fitsMoved_28 : decode cX0_fitsMoved 28 = .ok (.getfield 19, 3) := by decide +kernel
theorem dX0_fitsMoved_31 : decode cX0_fitsMoved 31 = .ok (.iload 5, 2) := by decide +kernel
theorem dX0_fitsMoved_33 : decode cX0_fitsMoved 33 = .ok (.iaload, 1) := by decide +kernel
theorem dX0_fitsMoved_34 : decode cX0_fitsMoved 34 = .ok (.iload 4, 2) := by decide +kernel
theorem dX0_fitsMoved_36 : decode cX0_fitsMoved 36 = .ok (.iadd, 1) := by decide +kernel
theorem dX0_fitsMoved_37 : decode cX0_fitsMoved 37 = .ok (.invokestatic 48, 3) := by decide +kernel
theorem dX0_fitsMoved_40 : decode cX0_fitsMoved 40 = .ok (.ifCond .ne 5, 3) := by decide +kernel
theorem dX0_fitsMoved_43 : decode cX0_fitsMoved 43 = .ok (.iconst 0, 1) := by decide +kernel
theorem dX0_fitsMoved_44 : decode cX0_fitsMoved 44 = .ok (.ireturn, 1) := by decide +kernel
theorem dX0_fitsMoved_45 : decode cX0_fitsMoved 45 = .ok (.iinc 5 1, 3) := by decide +kernel
theorem dX0_fitsMoved_48 : decode cX0_fitsMoved 48 = .ok (.goto (-45), 3) := by decide +kernel
theorem dX0_fitsMoved_51 : decode cX0_fitsMoved 51 = .ok (.iconst 1, 1) := by decide +kernel
theorem dX0_fitsMoved_52 : decode cX0_fitsMoved 52 = .ok (.ireturn, 1) := by decide +kernel
theorem dX0_fitsShrunk_0 : decode cX0_fitsShrunk 0 = .ok (.iload_n 1, 1) := by decide +kernel
theorem dX0_fitsShrunk_1 : decode cX0_fitsShrunk 1 = .ok (.invokestatic 52, 3) := by decide +kernel
theorem dX0_fitsShrunk_4 : decode cX0_fitsShrunk 4 = .ok (.istore_n 3, 1) := by decide +kernel
theorem dX0_fitsShrunk_5 : decode cX0_fitsShrunk 5 = .ok (.iload_n 3, 1) := by decide +kernel
theorem dX0_fitsShrunk_6 : decode cX0_fitsShrunk 6 = .ok (.iload_n 1, 1) := by decide +kernel
theorem dX0_fitsShrunk_7 : decode cX0_fitsShrunk 7 = .ok (.invokestatic 56, 3) := by decide +kernel
theorem dX0_fitsShrunk_10 : decode cX0_fitsShrunk 10 = .ok (.if_icmp .gt 45, 3) := by decide +kernel
theorem dX0_fitsShrunk_13 : decode cX0_fitsShrunk 13 = .ok (.aload_n 0, 1) := by decide +kernel
theorem dX0_fitsShrunk_14 : decode cX0_fitsShrunk 14 = .ok (.iload_n 3, 1) := by decide +kernel
theorem dX0_fitsShrunk_15 : decode cX0_fitsShrunk 15 = .ok (.invokevirtual 40, 3) := by decide +kernel
theorem dX0_fitsShrunk_18 : decode cX0_fitsShrunk 18 = .ok (.ifCond .eq 31, 3) := by decide +kernel
theorem dX0_fitsShrunk_21 : decode cX0_fitsShrunk 21 = .ok (.aload_n 0, 1) := by decide +kernel
theorem dX0_fitsShrunk_22 : decode cX0_fitsShrunk 22 = .ok (.getfield 15, 3) := by decide +kernel
theorem dX0_fitsShrunk_25 : decode cX0_fitsShrunk 25 = .ok (.iload_n 3, 1) := by decide +kernel
theorem dX0_fitsShrunk_26 : decode cX0_fitsShrunk 26 = .ok (.iaload, 1) := by decide +kernel
theorem dX0_fitsShrunk_27 : decode cX0_fitsShrunk 27 = .ok (.iload_n 2, 1) := by decide +kernel
theorem dX0_fitsShrunk_28 : decode cX0_fitsShrunk 28 = .ok (.invokestatic 59, 3) := by decide +kernel
theorem dX0_fitsShrunk_31 : decode cX0_fitsShrunk 31 = .ok (.aload_n 0, 1) := by decide +kernel
theorem dX0_fitsShrunk_32 : decode cX0_fitsShrunk 32 = .ok (.getfield 19, 3) := by decide +kernel
theorem dX0_fitsShrunk_35 : decode cX0_fitsShrunk 35 = .ok (.iload_n 3, 1) := by decide +kernel
theorem dX0_fitsShrunk_36 : decode cX0_fitsShrunk 36 = .ok (.iaload, 1) := by decide +kernel
theorem dX0_fitsShrunk_37 : decode cX0_fitsShrunk 37 = .ok (.iload_n 2, 1) := by decide +kernel
theorem dX0_fitsShrunk_38 : decode cX0_fitsShrunk 38 = .ok (.invokestatic 59, 3) := by decide +kernel
theorem dX0_fitsShrunk_41 : decode cX0_fitsShrunk 41 = .ok (.invokestatic 48, 3) := by decide +kernel
theorem dX0_fitsShrunk_44 : decode cX0_fitsShrunk 44 = .ok (.ifCond .ne 5, 3) := by decide +kernel
theorem dX0_fitsShrunk_47 : decode cX0_fitsShrunk 47 = .ok (.iconst 0, 1) := by decide +kernel
theorem dX0_fitsShrunk_48 : decode cX0_fitsShrunk 48 = .ok (.ireturn, 1) := by decide +kernel
theorem dX0_fitsShrunk_49 : decode cX0_fitsShrunk 49 = .ok (.iinc 3 1, 3) := by decide +kernel
theorem dX0_fitsShrunk_52 : decode cX0_fitsShrunk 52 = .ok (.goto (-47), 3) := by decide +kernel
theorem dX0_fitsShrunk_55 : decode cX0_fitsShrunk 55 = .ok (.iconst 1, 1) := by decide +kernel
theorem dX0_fitsShrunk_56 : decode cX0_fitsShrunk 56 = .ok (.ireturn, 1) := by decide +kernel
theorem dX0_shrinkPlaces_0 : decode cX0_shrinkPlaces 0 = .ok (.iload_n 1, 1) := by decide +kernel
theorem dX0_shrinkPlaces_1 : decode cX0_shrinkPlaces 1 = .ok (.invokestatic 52, 3) := by decide +kernel
theorem dX0_shrinkPlaces_4 : decode cX0_shrinkPlaces 4 = .ok (.istore_n 3, 1) := by decide +kernel
theorem dX0_shrinkPlaces_5 : decode cX0_shrinkPlaces 5 = .ok (.iload_n 3, 1) := by decide +kernel
theorem dX0_shrinkPlaces_6 : decode cX0_shrinkPlaces 6 = .ok (.iload_n 1, 1) := by decide +kernel
theorem dX0_shrinkPlaces_7 : decode cX0_shrinkPlaces 7 = .ok (.invokestatic 56, 3) := by decide +kernel
theorem dX0_shrinkPlaces_10 : decode cX0_shrinkPlaces 10 = .ok (.if_icmp .gt 49, 3) := by decide +kernel
theorem dX0_shrinkPlaces_13 : decode cX0_shrinkPlaces 13 = .ok (.aload_n 0, 1) := by decide +kernel
theorem dX0_shrinkPlaces_14 : decode cX0_shrinkPlaces 14 = .ok (.iload_n 3, 1) := by decide +kernel
theorem dX0_shrinkPlaces_15 : decode cX0_shrinkPlaces 15 = .ok (.invokevirtual 40, 3) := by decide +kernel
theorem dX0_shrinkPlaces_18 : decode cX0_shrinkPlaces 18 = .ok (.ifCond .eq 35, 3) := by decide +kernel
theorem dX0_shrinkPlaces_21 : decode cX0_shrinkPlaces 21 = .ok (.aload_n 0, 1) := by decide +kernel
theorem dX0_shrinkPlaces_22 : decode cX0_shrinkPlaces 22 = .ok (.getfield 15, 3) := by decide +kernel
theorem dX0_shrinkPlaces_25 : decode cX0_shrinkPlaces 25 = .ok (.iload_n 3, 1) := by decide +kernel
theorem dX0_shrinkPlaces_26 : decode cX0_shrinkPlaces 26 = .ok (.aload_n 0, 1) := by decide +kernel
theorem dX0_shrinkPlaces_27 : decode cX0_shrinkPlaces 27 = .ok (.getfield 15, 3) := by decide +kernel
theorem dX0_shrinkPlaces_30 : decode cX0_shrinkPlaces 30 = .ok (.iload_n 3, 1) := by decide +kernel
theorem dX0_shrinkPlaces_31 : decode cX0_shrinkPlaces 31 = .ok (.iaload, 1) := by decide +kernel
theorem dX0_shrinkPlaces_32 : decode cX0_shrinkPlaces 32 = .ok (.iload_n 2, 1) := by decide +kernel
theorem dX0_shrinkPlaces_33 : decode cX0_shrinkPlaces 33 = .ok (.invokestatic 59, 3) := by decide +kernel
theorem dX0_shrinkPlaces_36 : decode cX0_shrinkPlaces 36 = .ok (.iastore, 1) := by decide +kernel
theorem dX0_shrinkPlaces_37 : decode cX0_shrinkPlaces 37 = .ok (.aload_n 0, 1) := by decide +kernel
theorem dX0_shrinkPlaces_38 : decode cX0_shrinkPlaces 38 = .ok (.getfield 19, 3) := by decide +kernel
theorem dX0_shrinkPlaces_41 : decode cX0_shrinkPlaces 41 = .ok (.iload_n 3, 1) := by decide +kernel
theorem dX0_shrinkPlaces_42 : decode cX0_shrinkPlaces 42 = .ok (.aload_n 0, 1) := by decide +kernel
theorem dX0_shrinkPlaces_43 : decode cX0_shrinkPlaces 43 = .ok (.getfield 19, 3) := by decide +kernel
theorem dX0_shrinkPlaces_46 : decode cX0_shrinkPlaces 46 = .ok (.iload_n 3, 1) := by decide +kernel
theorem dX0_shrinkPlaces_47 : decode cX0_shrinkPlaces 47 = .ok (.iaload, 1) := by decide +kernel
theorem dX0_shrinkPlaces_48 : decode cX0_shrinkPlaces 48 = .ok (.iload_n 2, 1) := by decide +kernel
theorem dX0_shrinkPlaces_49 : decode cX0_shrinkPlaces 49 = .ok (.invokestatic 59, 3) := by decide +kernel
theorem dX0_shrinkPlaces_52 : decode cX0_shrinkPlaces 52 = .ok (.iastore, 1) := by decide +kernel
theorem dX0_shrinkPlaces_53 : decode cX0_shrinkPlaces 53 = .ok (.iinc 3 1, 3) := by decide +kernel
theorem dX0_shrinkPlaces_56 : decode cX0_shrinkPlaces 56 = .ok (.goto (-51), 3) := by decide +kernel
theorem dX0_shrinkPlaces_59 : decode cX0_shrinkPlaces 59 = .ok (.return_, 1) := by decide +kernel
theorem dX0_shrunk_0 : decode cX0_shrunk 0 = .ok (.iload_n 0, 1) := by decide +kernel
theorem dX0_shrunk_1 : decode cX0_shrunk 1 = .ok (.iload_n 1, 1) := by decide +kernel
theorem dX0_shrunk_2 : decode cX0_shrunk 2 = .ok (.imul, 1) := by decide +kernel
theorem dX0_shrunk_3 : decode cX0_shrunk 3 = .ok (.bipush 100, 2) := by decide +kernel
theorem dX0_shrunk_5 : decode cX0_shrunk 5 = .ok (.idiv, 1) := by decide +kernel
theorem dX0_shrunk_6 : decode cX0_shrunk 6 = .ok (.ireturn, 1) := by decide +kernel
theorem dX0_isPlace_0 : decode cX0_isPlace 0 = .ok (.iload_n 0, 1) := by decide +kernel
theorem dX0_isPlace_1 : decode cX0_isPlace 1 = .ok (.sipush 9999, 3) := by decide +kernel
theorem dX0_isPlace_4 : decode cX0_isPlace 4 = .ok (.invokestatic 63, 3) := by decide +kernel
theorem dX0_isPlace_7 : decode cX0_isPlace 7 = .ok (.ifCond .eq 17, 3) := by decide +kernel
theorem dX0_isPlace_10 : decode cX0_isPlace 10 = .ok (.iload_n 1, 1) := by decide +kernel
theorem dX0_isPlace_11 : decode cX0_isPlace 11 = .ok (.sipush 9999, 3) := by decide +kernel
theorem dX0_isPlace_14 : decode cX0_isPlace 14 = .ok (.invokestatic 63, 3) := by decide +kernel
theorem dX0_isPlace_17 : decode cX0_isPlace 17 = .ok (.ifCond .eq 7, 3) := by decide +kernel
theorem dX0_isPlace_20 : decode cX0_isPlace 20 = .ok (.iconst 1, 1) := by decide +kernel
theorem dX0_isPlace_21 : decode cX0_isPlace 21 = .ok (.goto 4, 3) := by decide +kernel
theorem dX0_isPlace_24 : decode cX0_isPlace 24 = .ok (.iconst 0, 1) := by decide +kernel
theorem dX0_isPlace_25 : decode cX0_isPlace 25 = .ok (.ireturn, 1) := by decide +kernel
theorem dX1_init_0 : decode cX1_init 0 = .ok (.aload_n 0, 1) := by decide +kernel
theorem dX1_init_1 : decode cX1_init 1 = .ok (.invokespecial 3, 3) := by decide +kernel
theorem dX1_init_4 : decode cX1_init 4 = .ok (.aload_n 0, 1) := by decide +kernel
theorem dX1_init_5 : decode cX1_init 5 = .ok (.bipush 24, 2) := by decide +kernel
theorem dX1_init_7 : decode cX1_init 7 = .ok (.newarray .int, 2) := by decide +kernel
theorem dX1_init_9 : decode cX1_init 9 = .ok (.putfield 9, 3) := by decide +kernel
theorem dX1_init_12 : decode cX1_init 12 = .ok (.aload_n 0, 1) := by decide +kernel
theorem dX1_init_13 : decode cX1_init 13 = .ok (.bipush 24, 2) := by decide +kernel
theorem dX1_init_15 : decode cX1_init 15 = .ok (.newarray .int, 2) := by decide +kernel
theorem dX1_init_17 : decode cX1_init 17 = .ok (.putfield 15, 3) := by decide +kernel
theorem dX1_init_20 : decode cX1_init 20 = .ok (.aload_n 0, 1) := by decide +kernel
theorem dX1_init_21 : decode cX1_init 21 = .ok (.bipush 24, 2) := by decide +kernel
theorem dX1_init_23 : decode cX1_init 23 = .ok (.newarray .int, 2) := by decide +kernel
theorem dX1_init_25 : decode cX1_init 25 = .ok (.putfield 18, 3) := by decide +kernel
theorem dX1_init_28 : decode cX1_init 28 = .ok (.aload_n 0, 1) := by decide +kernel
theorem dX1_init_29 : decode cX1_init 29 = .ok (.bipush 24, 2) := by decide +kernel
theorem dX1_init_31 : decode cX1_init 31 = .ok (.newarray .int, 2) := by decide +kernel
theorem dX1_init_33 : decode cX1_init 33 = .ok (.putfield 21, 3) := by decide +kernel
theorem dX1_init_36 : decode cX1_init 36 = .ok (.iconst 0, 1) := by decide +kernel
theorem dX1_init_37 : decode cX1_init 37 = .ok (.istore_n 1, 1) := by decide +kernel
theorem dX1_init_38 : decode cX1_init 38 = .ok (.iload_n 1, 1) := by decide +kernel
theorem dX1_init_39 : decode cX1_init 39 = .ok (.bipush 24, 2) := by decide +kernel
theorem dX1_init_41 : decode cX1_init 41 = .ok (.if_icmp .ge 27, 3) := by decide +kernel
theorem dX1_init_44 : decode cX1_init 44 = .ok (.aload_n 0, 1) := by decide +kernel
theorem dX1_init_45 : decode cX1_init 45 = .ok (.getfield 18, 3) := by decide +kernel
theorem dX1_init_48 : decode cX1_init 48 = .ok (.iload_n 1, 1) := by decide +kernel
theorem dX1_init_49 : decode cX1_init 49 = .ok (.iload_n 1, 1) := by decide +kernel
theorem dX1_init_50 : decode cX1_init 50 = .ok (.iconst 1, 1) := by decide +kernel
theorem dX1_init_51 : decode cX1_init 51 = .ok (.iadd, 1) := by decide +kernel
theorem dX1_init_52 : decode cX1_init 52 = .ok (.iastore, 1) := by decide +kernel
theorem dX1_init_53 : decode cX1_init 53 = .ok (.aload_n 0, 1) := by decide +kernel
theorem dX1_init_54 : decode cX1_init 54 = .ok (.getfield 21, 3) := by decide +kernel
theorem dX1_init_57 : decode cX1_init 57 = .ok (.iload_n 1, 1) := by decide +kernel
theorem dX1_init_58 : decode cX1_init 58 = .ok (.sipush 1000, 3) := by decide +kernel
theorem dX1_init_61 : decode cX1_init 61 = .ok (.iastore, 1) := by decide +kernel
theorem dX1_init_62 : decode cX1_init 62 = .ok (.iinc 1 1, 3) := by decide +kernel
theorem dX1_init_65 : decode cX1_init 65 = .ok (.goto (-27), 3) := by decide +kernel
theorem dX1_init_68 : decode cX1_init 68 = .ok (.return_, 1) := by decide +kernel
theorem dX2_init_0 : decode cX2_init 0 = .ok (.aload_n 0, 1) := by decide +kernel
theorem dX2_init_1 : decode cX2_init 1 = .ok (.invokespecial 3, 3) := by decide +kernel
theorem dX2_init_4 : decode cX2_init 4 = .ok (.aload_n 0, 1) := by decide +kernel
theorem dX2_init_5 : decode cX2_init 5 = .ok (.iconst 0, 1) := by decide +kernel
theorem dX2_init_6 : decode cX2_init 6 = .ok (.putfield 9, 3) := by decide +kernel
theorem dX2_init_9 : decode cX2_init 9 = .ok (.aload_n 0, 1) := by decide +kernel
theorem dX2_init_10 : decode cX2_init 10 = .ok (.bipush 100, 2) := by decide +kernel
theorem dX2_init_12 : decode cX2_init 12 = .ok (.newarray .int, 2) := by decide +kernel
theorem dX2_init_14 : decode cX2_init 14 = .ok (.putfield 15, 3) := by decide +kernel
theorem dX2_init_17 : decode cX2_init 17 = .ok (.iconst 0, 1) := by decide +kernel
theorem dX2_init_18 : decode cX2_init 18 = .ok (.istore_n 1, 1) := by decide +kernel
theorem dX2_init_19 : decode cX2_init 19 = .ok (.iload_n 1, 1) := by decide +kernel
theorem dX2_init_20 : decode cX2_init 20 = .ok (.bipush 99, 2) := by decide +kernel
theorem dX2_init_22 : decode cX2_init 22 = .ok (.if_icmp .gt 16, 3) := by decide +kernel
theorem dX2_init_25 : decode cX2_init 25 = .ok (.aload_n 0, 1) := by decide +kernel
theorem dX2_init_26 : decode cX2_init 26 = .ok (.getfield 15, 3) := by decide +kernel
theorem dX2_init_29 : decode cX2_init 29 = .ok (.iload_n 1, 1) := by decide +kernel
theorem dX2_init_30 : decode cX2_init 30 = .ok (.iload_n 1, 1) := by decide +kernel
theorem dX2_init_31 : decode cX2_init 31 = .ok (.iastore, 1) := by decide +kernel
theorem dX2_init_32 : decode cX2_init 32 = .ok (.iinc 1 1, 3) := by decide +kernel
theorem dX2_init_35 : decode cX2_init 35 = .ok (.goto (-16), 3) := by decide +kernel
theorem dX2_init_38 : decode cX2_init 38 = .ok (.return_, 1) := by decide +kernel
theorem dX2_readingOf_0 : decode cX2_readingOf 0 = .ok (.iload_n 1, 1) := by decide +kernel
theorem dX2_readingOf_1 : decode cX2_readingOf 1 = .ok (.invokestatic 19, 3) := by decide +kernel
theorem dX2_readingOf_4 : decode cX2_readingOf 4 = .ok (.ifCond .eq 12, 3) := by decide +kernel
theorem dX2_readingOf_7 : decode cX2_readingOf 7 = .ok (.aload_n 0, 1) := by decide +kernel
theorem dX2_readingOf_8 : decode cX2_readingOf 8 = .ok (.getfield 15, 3) := by decide +kernel
theorem dX2_readingOf_11 : decode cX2_readingOf 11 = .ok (.iload_n 1, 1) := by decide +kernel
theorem dX2_readingOf_12 : decode cX2_readingOf 12 = .ok (.iaload, 1) := by decide +kernel
theorem dX2_readingOf_13 : decode cX2_readingOf 13 = .ok (.goto 4, 3) := by decide +kernel
theorem dX2_readingOf_16 : decode cX2_readingOf 16 = .ok (.iload_n 1, 1) := by decide +kernel
theorem dX2_readingOf_17 : decode cX2_readingOf 17 = .ok (.ireturn, 1) := by decide +kernel
theorem dX3_init_0 : decode cX3_init 0 = .ok (.aload_n 0, 1) := by decide +kernel
theorem dX3_init_1 : decode cX3_init 1 = .ok (.invokespecial 3, 3) := by decide +kernel
theorem dX3_init_4 : decode cX3_init 4 = .ok (.aload_n 0, 1) := by decide +kernel
theorem dX3_init_5 : decode cX3_init 5 = .ok (.bipush 20, 2) := by decide +kernel
theorem dX3_init_7 : decode cX3_init 7 = .ok (.newarray .int, 2) := by decide +kernel
theorem dX3_init_9 : decode cX3_init 9 = .ok (.putfield 9, 3) := by decide +kernel
theorem dX3_init_12 : decode cX3_init 12 = .ok (.aload_n 0, 1) := by decide +kernel
theorem dX3_init_13 : decode cX3_init 13 = .ok (.bipush 20, 2) := by decide +kernel
theorem dX3_init_15 : decode cX3_init 15 = .ok (.newarray .int, 2) := by decide +kernel
theorem dX3_init_17 : decode cX3_init 17 = .ok (.putfield 15, 3) := by decide +kernel
theorem dX3_init_20 : decode cX3_init 20 = .ok (.aload_n 0, 1) := by decide +kernel
theorem dX3_init_21 : decode cX3_init 21 = .ok (.bipush 20, 2) := by decide +kernel
theorem dX3_init_23 : decode cX3_init 23 = .ok (.newarray .int, 2) := by decide +kernel
theorem dX3_init_25 : decode cX3_init 25 = .ok (.putfield 18, 3) := by decide +kernel
theorem dX3_init_28 : decode cX3_init 28 = .ok (.aload_n 0, 1) := by decide +kernel
theorem dX3_init_29 : decode cX3_init 29 = .ok (.iconst 0, 1) := by decide +kernel
theorem dX3_init_30 : decode cX3_init 30 = .ok (.putfield 21, 3) := by decide +kernel
theorem dX3_init_33 : decode cX3_init 33 = .ok (.return_, 1) := by decide +kernel
theorem dX4_init_0 : decode cX4_init 0 = .ok (.aload_n 0, 1) := by decide +kernel
theorem dX4_init_1 : decode cX4_init 1 = .ok (.invokespecial 3, 3) := by decide +kernel
theorem dX4_init_4 : decode cX4_init 4 = .ok (.aload_n 0, 1) := by decide +kernel
theorem dX4_init_5 : decode cX4_init 5 = .ok (.bipush 60, 2) := by decide +kernel
theorem dX4_init_7 : decode cX4_init 7 = .ok (.newarray .int, 2) := by decide +kernel
theorem dX4_init_9 : decode cX4_init 9 = .ok (.putfield 9, 3) := by decide +kernel
theorem dX4_init_12 : decode cX4_init 12 = .ok (.aload_n 0, 1) := by decide +kernel
theorem dX4_init_13 : decode cX4_init 13 = .ok (.bipush 60, 2) := by decide +kernel
theorem dX4_init_15 : decode cX4_init 15 = .ok (.newarray .int, 2) := by decide +kernel
theorem dX4_init_17 : decode cX4_init 17 = .ok (.putfield 15, 3) := by decide +kernel
theorem dX4_init_20 : decode cX4_init 20 = .ok (.aload_n 0, 1) := by decide +kernel
theorem dX4_init_21 : decode cX4_init 21 = .ok (.bipush 60, 2) := by decide +kernel
theorem dX4_init_23 : decode cX4_init 23 = .ok (.newarray .int, 2) := by decide +kernel
theorem dX4_init_25 : decode cX4_init 25 = .ok (.putfield 18, 3) := by decide +kernel
theorem dX4_init_28 : decode cX4_init 28 = .ok (.aload_n 0, 1) := by decide +kernel
theorem dX4_init_29 : decode cX4_init 29 = .ok (.bipush 60, 2) := by decide +kernel
theorem dX4_init_31 : decode cX4_init 31 = .ok (.newarray .int, 2) := by decide +kernel
theorem dX4_init_33 : decode cX4_init 33 = .ok (.putfield 21, 3) := by decide +kernel
theorem dX4_init_36 : decode cX4_init 36 = .ok (.aload_n 0, 1) := by decide +kernel
theorem dX4_init_37 : decode cX4_init 37 = .ok (.iconst 0, 1) := by decide +kernel
theorem dX4_init_38 : decode cX4_init 38 = .ok (.putfield 24, 3) := by decide +kernel
theorem dX4_init_41 : decode cX4_init 41 = .ok (.return_, 1) := by decide +kernel
theorem dX5_init_0 : decode cX5_init 0 = .ok (.aload_n 0, 1) := by decide +kernel
theorem dX5_init_1 : decode cX5_init 1 = .ok (.invokespecial 3, 3) := by decide +kernel
theorem dX5_init_4 : decode cX5_init 4 = .ok (.aload_n 0, 1) := by decide +kernel
theorem dX5_init_5 : decode cX5_init 5 = .ok (.bipush 6, 2) := by decide +kernel
theorem dX5_init_7 : decode cX5_init 7 = .ok (.newarray .int, 2) := by decide +kernel
theorem dX5_init_9 : decode cX5_init 9 = .ok (.putfield 9, 3) := by decide +kernel
theorem dX5_init_12 : decode cX5_init 12 = .ok (.aload_n 0, 1) := by decide +kernel
theorem dX5_init_13 : decode cX5_init 13 = .ok (.bipush 6, 2) := by decide +kernel
theorem dX5_init_15 : decode cX5_init 15 = .ok (.newarray .int, 2) := by decide +kernel
theorem dX5_init_17 : decode cX5_init 17 = .ok (.putfield 15, 3) := by decide +kernel
theorem dX5_init_20 : decode cX5_init 20 = .ok (.aload_n 0, 1) := by decide +kernel
theorem dX5_init_21 : decode cX5_init 21 = .ok (.iconst 0, 1) := by decide +kernel
theorem dX5_init_22 : decode cX5_init 22 = .ok (.putfield 18, 3) := by decide +kernel
theorem dX5_init_25 : decode cX5_init 25 = .ok (.return_, 1) := by decide +kernel
theorem dX6_init_0 : decode cX6_init 0 = .ok (.aload_n 0, 1) := by decide +kernel
theorem dX6_init_1 : decode cX6_init 1 = .ok (.invokespecial 3, 3) := by decide +kernel
theorem dX6_init_4 : decode cX6_init 4 = .ok (.aload_n 0, 1) := by decide +kernel
theorem dX6_init_5 : decode cX6_init 5 = .ok (.bipush 24, 2) := by decide +kernel
theorem dX6_init_7 : decode cX6_init 7 = .ok (.newarray .int, 2) := by decide +kernel
theorem dX6_init_9 : decode cX6_init 9 = .ok (.putfield 9, 3) := by decide +kernel
theorem dX6_init_12 : decode cX6_init 12 = .ok (.aload_n 0, 1) := by decide +kernel
theorem dX6_init_13 : decode cX6_init 13 = .ok (.bipush 24, 2) := by decide +kernel
theorem dX6_init_15 : decode cX6_init 15 = .ok (.newarray .int, 2) := by decide +kernel
theorem dX6_init_17 : decode cX6_init 17 = .ok (.putfield 15, 3) := by decide +kernel
theorem dX6_init_20 : decode cX6_init 20 = .ok (.aload_n 0, 1) := by decide +kernel
theorem dX6_init_21 : decode cX6_init 21 = .ok (.bipush 24, 2) := by decide +kernel
theorem dX6_init_23 : decode cX6_init 23 = .ok (.newarray .int, 2) := by decide +kernel
theorem dX6_init_25 : decode cX6_init 25 = .ok (.putfield 18, 3) := by decide +kernel
theorem dX6_init_28 : decode cX6_init 28 = .ok (.return_, 1) := by decide +kernel
theorem dX6_begin_0 : decode cX6_begin 0 = .ok (.iconst 0, 1) := by decide +kernel
theorem dX6_begin_1 : decode cX6_begin 1 = .ok (.istore_n 1, 1) := by decide +kernel
theorem dX6_begin_2 : decode cX6_begin 2 = .ok (.iload_n 1, 1) := by decide +kernel
theorem dX6_begin_3 : decode cX6_begin 3 = .ok (.bipush 24, 2) := by decide +kernel
theorem dX6_begin_5 : decode cX6_begin 5 = .ok (.if_icmp .ge 30, 3) := by decide +kernel
theorem dX6_begin_8 : decode cX6_begin 8 = .ok (.aload_n 0, 1) := by decide +kernel
theorem dX6_begin_9 : decode cX6_begin 9 = .ok (.getfield 9, 3) := by decide +kernel
theorem dX6_begin_12 : decode cX6_begin 12 = .ok (.iload_n 1, 1) := by decide +kernel
theorem dX6_begin_13 : decode cX6_begin 13 = .ok (.iconst 0, 1) := by decide +kernel
theorem dX6_begin_14 : decode cX6_begin 14 = .ok (.iastore, 1) := by decide +kernel
theorem dX6_begin_15 : decode cX6_begin 15 = .ok (.aload_n 0, 1) := by decide +kernel
theorem dX6_begin_16 : decode cX6_begin 16 = .ok (.getfield 15, 3) := by decide +kernel
theorem dX6_begin_19 : decode cX6_begin 19 = .ok (.iload_n 1, 1) := by decide +kernel
theorem dX6_begin_20 : decode cX6_begin 20 = .ok (.iconst 0, 1) := by decide +kernel
theorem dX6_begin_21 : decode cX6_begin 21 = .ok (.iastore, 1) := by decide +kernel
theorem dX6_begin_22 : decode cX6_begin 22 = .ok (.aload_n 0, 1) := by decide +kernel
theorem dX6_begin_23 : decode cX6_begin 23 = .ok (.getfield 18, 3) := by decide +kernel
theorem dX6_begin_26 : decode cX6_begin 26 = .ok (.iload_n 1, 1) := by decide +kernel
theorem dX6_begin_27 : decode cX6_begin 27 = .ok (.iconst 0, 1) := by decide +kernel
theorem dX6_begin_28 : decode cX6_begin 28 = .ok (.iastore, 1) := by decide +kernel
theorem dX6_begin_29 : decode cX6_begin 29 = .ok (.iinc 1 1, 3) := by decide +kernel
theorem dX6_begin_32 : decode cX6_begin 32 = .ok (.goto (-30), 3) := by decide +kernel
theorem dX6_begin_35 : decode cX6_begin 35 = .ok (.return_, 1) := by decide +kernel
theorem dX6_give_0 : decode cX6_give 0 = .ok (.aload_n 0, 1) := by decide +kernel
theorem dX6_give_1 : decode cX6_give 1 = .ok (.getfield 9, 3) := by decide +kernel
theorem dX6_give_4 : decode cX6_give 4 = .ok (.iload_n 1, 1) := by decide +kernel
theorem dX6_give_5 : decode cX6_give 5 = .ok (.dup2, 1) := by decide +kernel
theorem dX6_give_6 : decode cX6_give 6 = .ok (.iaload, 1) := by decide +kernel
theorem dX6_give_7 : decode cX6_give 7 = .ok (.iload_n 2, 1) := by decide +kernel
theorem dX6_give_8 : decode cX6_give 8 = .ok (.iadd, 1) := by decide +kernel
theorem dX6_give_9 : decode cX6_give 9 = .ok (.iastore, 1) := by decide +kernel
theorem dX6_give_10 : decode cX6_give 10 = .ok (.aload_n 0, 1) := by decide +kernel
theorem dX6_give_11 : decode cX6_give 11 = .ok (.getfield 15, 3) := by decide +kernel
theorem dX6_give_14 : decode cX6_give 14 = .ok (.iload_n 1, 1) := by decide +kernel
theorem dX6_give_15 : decode cX6_give 15 = .ok (.dup2, 1) := by decide +kernel
theorem dX6_give_16 : decode cX6_give 16 = .ok (.iaload, 1) := by decide +kernel
theorem dX6_give_17 : decode cX6_give 17 = .ok (.iload_n 3, 1) := by decide +kernel
theorem dX6_give_18 : decode cX6_give 18 = .ok (.iadd, 1) := by decide +kernel
theorem dX6_give_19 : decode cX6_give 19 = .ok (.iastore, 1) := by decide +kernel
theorem dX6_give_20 : decode cX6_give 20 = .ok (.aload_n 0, 1) := by decide +kernel
theorem dX6_give_21 : decode cX6_give 21 = .ok (.getfield 18, 3) := by decide +kernel
theorem dX6_give_24 : decode cX6_give 24 = .ok (.iload_n 1, 1) := by decide +kernel
theorem dX6_give_25 : decode cX6_give 25 = .ok (.dup2, 1) := by decide +kernel
theorem dX6_give_26 : decode cX6_give 26 = .ok (.iaload, 1) := by decide +kernel
theorem dX6_give_27 : decode cX6_give 27 = .ok (.iconst 1, 1) := by decide +kernel
theorem dX6_give_28 : decode cX6_give 28 = .ok (.iadd, 1) := by decide +kernel
theorem dX6_give_29 : decode cX6_give 29 = .ok (.iastore, 1) := by decide +kernel
theorem dX6_give_30 : decode cX6_give 30 = .ok (.return_, 1) := by decide +kernel
theorem dX6_settle_0 : decode cX6_settle 0 = .ok (.iconst 0, 1) := by decide +kernel
theorem dX6_settle_1 : decode cX6_settle 1 = .ok (.istore_n 2, 1) := by decide +kernel
theorem dX6_settle_2 : decode cX6_settle 2 = .ok (.iconst 0, 1) := by decide +kernel
theorem dX6_settle_3 : decode cX6_settle 3 = .ok (.istore_n 3, 1) := by decide +kernel
theorem dX6_settle_4 : decode cX6_settle 4 = .ok (.iload_n 3, 1) := by decide +kernel
theorem dX6_settle_5 : decode cX6_settle 5 = .ok (.bipush 24, 2) := by decide +kernel
theorem dX6_settle_7 : decode cX6_settle 7 = .ok (.if_icmp .ge 48, 3) := by decide +kernel
theorem dX6_settle_10 : decode cX6_settle 10 = .ok (.aload_n 0, 1) := by decide +kernel
theorem dX6_settle_11 : decode cX6_settle 11 = .ok (.getfield 18, 3) := by decide +kernel
theorem dX6_settle_14 : decode cX6_settle 14 = .ok (.iload_n 3, 1) := by decide +kernel
theorem dX6_settle_15 : decode cX6_settle 15 = .ok (.iaload, 1) := by decide +kernel
theorem dX6_settle_16 : decode cX6_settle 16 = .ok (.istore 4, 2) := by decide +kernel
theorem dX6_settle_18 : decode cX6_settle 18 = .ok (.iload 4, 2) := by decide +kernel
theorem dX6_settle_20 : decode cX6_settle 20 = .ok (.ifCond .le 29, 3) := by decide +kernel
theorem dX6_settle_23 : decode cX6_settle 23 = .ok (.aload_n 1, 1) := by decide +kernel
theorem dX6_settle_24 : decode cX6_settle 24 = .ok (.iload_n 3, 1) := by decide +kernel
theorem dX6_settle_25 : decode cX6_settle 25 = .ok (.aload_n 0, 1) := by decide +kernel
theorem dX6_settle_26 : decode cX6_settle 26 = .ok (.getfield 9, 3) := by decide +kernel
theorem dX6_settle_29 : decode cX6_settle 29 = .ok (.iload_n 3, 1) := by decide +kernel
theorem dX6_settle_30 : decode cX6_settle 30 = .ok (.iaload, 1) := by decide +kernel
theorem dX6_settle_31 : decode cX6_settle 31 = .ok (.iload 4, 2) := by decide +kernel
theorem dX6_settle_33 : decode cX6_settle 33 = .ok (.idiv, 1) := by decide +kernel
theorem dX6_settle_34 : decode cX6_settle 34 = .ok (.aload_n 0, 1) := by decide +kernel
theorem dX6_settle_35 : decode cX6_settle 35 = .ok (.getfield 15, 3) := by decide +kernel
theorem dX6_settle_38 : decode cX6_settle 38 = .ok (.iload_n 3, 1) := by decide +kernel
theorem dX6_settle_39 : decode cX6_settle 39 = .ok (.iaload, 1) := by decide +kernel
theorem dX6_settle_40 : decode cX6_settle 40 = .ok (.iload 4, 2) := by decide +kernel
theorem dX6_settle_42 : decode cX6_settle 42 = .ok (.idiv, 1) := by decide +kernel
theorem dX6_settle_43 : decode cX6_settle 43 = .ok (.iconst (-1), 1) := by decide +kernel
theorem dX6_settle_44 : decode cX6_settle 44 = .ok (.invokevirtual 21, 3) := by decide +kernel
theorem dX6_settle_47 : decode cX6_settle 47 = .ok (.iconst 1, 1) := by decide +kernel
theorem dX6_settle_48 : decode cX6_settle 48 = .ok (.istore_n 2, 1) := by decide +kernel
theorem dX6_settle_49 : decode cX6_settle 49 = .ok (.iinc 3 1, 3) := by decide +kernel
theorem dX6_settle_52 : decode cX6_settle 52 = .ok (.goto (-48), 3) := by decide +kernel
theorem dX6_settle_55 : decode cX6_settle 55 = .ok (.iload_n 2, 1) := by decide +kernel
theorem dX6_settle_56 : decode cX6_settle 56 = .ok (.ireturn, 1) := by decide +kernel
theorem dX7_init_0 : decode cX7_init 0 = .ok (.aload_n 0, 1) := by decide +kernel
theorem dX7_init_1 : decode cX7_init 1 = .ok (.invokespecial 1, 3) := by decide +kernel
theorem dX7_init_4 : decode cX7_init 4 = .ok (.aload_n 0, 1) := by decide +kernel
theorem dX7_init_5 : decode cX7_init 5 = .ok (.new 7, 3) := by decide +kernel
theorem dX7_init_8 : decode cX7_init 8 = .ok (.dup, 1) := by decide +kernel
theorem dX7_init_9 : decode cX7_init 9 = .ok (.invokespecial 9, 3) := by decide +kernel
theorem dX7_init_12 : decode cX7_init 12 = .ok (.putfield 10, 3) := by decide +kernel
theorem dX7_init_15 : decode cX7_init 15 = .ok (.aload_n 0, 1) := by decide +kernel
theorem dX7_init_16 : decode cX7_init 16 = .ok (.new 16, 3) := by decide +kernel
theorem dX7_init_19 : decode cX7_init 19 = .ok (.dup, 1) := by decide +kernel
theorem dX7_init_20 : decode cX7_init 20 = .ok (.invokespecial 18, 3) := by decide +kernel
theorem dX7_init_23 : decode cX7_init 23 = .ok (.putfield 19, 3) := by decide +kernel
theorem dX7_init_26 : decode cX7_init 26 = .ok (.aload_n 0, 1) := by decide +kernel
theorem dX7_init_27 : decode cX7_init 27 = .ok (.new 23, 3) := by decide +kernel
theorem dX7_init_30 : decode cX7_init 30 = .ok (.dup, 1) := by decide +kernel
theorem dX7_init_31 : decode cX7_init 31 = .ok (.invokespecial 25, 3) := by decide +kernel
theorem dX7_init_34 : decode cX7_init 34 = .ok (.putfield 26, 3) := by decide +kernel
theorem dX7_init_37 : decode cX7_init 37 = .ok (.aload_n 0, 1) := by decide +kernel
theorem dX7_init_38 : decode cX7_init 38 = .ok (.new 30, 3) := by decide +kernel
theorem dX7_init_41 : decode cX7_init 41 = .ok (.dup, 1) := by decide +kernel
theorem dX7_init_42 : decode cX7_init 42 = .ok (.invokespecial 32, 3) := by decide +kernel
theorem dX7_init_45 : decode cX7_init 45 = .ok (.putfield 33, 3) := by decide +kernel
theorem dX7_init_48 : decode cX7_init 48 = .ok (.aload_n 0, 1) := by decide +kernel
theorem dX7_init_49 : decode cX7_init 49 = .ok (.iconst 4, 1) := by decide +kernel
theorem dX7_init_50 : decode cX7_init 50 = .ok (.anewarray 37, 3) := by decide +kernel
theorem dX7_init_53 : decode cX7_init 53 = .ok (.putfield 39, 3) := by decide +kernel
theorem dX7_init_56 : decode cX7_init 56 = .ok (.aload_n 0, 1) := by decide +kernel
theorem dX7_init_57 : decode cX7_init 57 = .ok (.bipush 12, 2) := by decide +kernel
theorem dX7_init_59 : decode cX7_init 59 = .ok (.anewarray 43, 3) := by decide +kernel
theorem dX7_init_62 : decode cX7_init 62 = .ok (.putfield 45, 3) := by decide +kernel
theorem dX7_init_65 : decode cX7_init 65 = .ok (.aload_n 0, 1) := by decide +kernel
theorem dX7_init_66 : decode cX7_init 66 = .ok (.new 49, 3) := by decide +kernel
theorem dX7_init_69 : decode cX7_init 69 = .ok (.dup, 1) := by decide +kernel
theorem dX7_init_70 : decode cX7_init 70 = .ok (.invokespecial 51, 3) := by decide +kernel
theorem dX7_init_73 : decode cX7_init 73 = .ok (.putfield 52, 3) := by decide +kernel
theorem dX7_init_76 : decode cX7_init 76 = .ok (.aload_n 0, 1) := by decide +kernel
theorem dX7_init_77 : decode cX7_init 77 = .ok (.iconst 0, 1) := by decide +kernel
theorem dX7_init_78 : decode cX7_init 78 = .ok (.putfield 56, 3) := by decide +kernel
theorem dX7_init_81 : decode cX7_init 81 = .ok (.iconst 0, 1) := by decide +kernel
theorem dX7_init_82 : decode cX7_init 82 = .ok (.istore_n 1, 1) := by decide +kernel
theorem dX7_init_83 : decode cX7_init 83 = .ok (.iload_n 1, 1) := by decide +kernel
theorem dX7_init_84 : decode cX7_init 84 = .ok (.iconst 4, 1) := by decide +kernel
theorem dX7_init_85 : decode cX7_init 85 = .ok (.if_icmp .ge 22, 3) := by decide +kernel
theorem dX7_init_88 : decode cX7_init 88 = .ok (.aload_n 0, 1) := by decide +kernel
theorem dX7_init_89 : decode cX7_init 89 = .ok (.getfield 39, 3) := by decide +kernel
theorem dX7_init_92 : decode cX7_init 92 = .ok (.iload_n 1, 1) := by decide +kernel
theorem dX7_init_93 : decode cX7_init 93 = .ok (.new 37, 3) := by decide +kernel
theorem dX7_init_96 : decode cX7_init 96 = .ok (.dup, 1) := by decide +kernel
theorem dX7_init_97 : decode cX7_init 97 = .ok (.invokespecial 60, 3) := by decide +kernel
theorem dX7_init_100 : decode cX7_init 100 = .ok (.aastore, 1) := by decide +kernel
theorem dX7_init_101 : decode cX7_init 101 = .ok (.iinc 1 1, 3) := by decide +kernel
theorem dX7_init_104 : decode cX7_init 104 = .ok (.goto (-21), 3) := by decide +kernel
theorem dX7_init_107 : decode cX7_init 107 = .ok (.iconst 0, 1) := by decide +kernel
theorem dX7_init_108 : decode cX7_init 108 = .ok (.istore_n 1, 1) := by decide +kernel
theorem dX7_init_109 : decode cX7_init 109 = .ok (.iload_n 1, 1) := by decide +kernel
theorem dX7_init_110 : decode cX7_init 110 = .ok (.bipush 12, 2) := by decide +kernel
theorem dX7_init_112 : decode cX7_init 112 = .ok (.if_icmp .ge 22, 3) := by decide +kernel
theorem dX7_init_115 : decode cX7_init 115 = .ok (.aload_n 0, 1) := by decide +kernel
theorem dX7_init_116 : decode cX7_init 116 = .ok (.getfield 45, 3) := by decide +kernel
theorem dX7_init_119 : decode cX7_init 119 = .ok (.iload_n 1, 1) := by decide +kernel
theorem dX7_init_120 : decode cX7_init 120 = .ok (.new 43, 3) := by decide +kernel
theorem dX7_init_123 : decode cX7_init 123 = .ok (.dup, 1) := by decide +kernel
theorem dX7_init_124 : decode cX7_init 124 = .ok (.invokespecial 61, 3) := by decide +kernel
theorem dX7_init_127 : decode cX7_init 127 = .ok (.aastore, 1) := by decide +kernel
theorem dX7_init_128 : decode cX7_init 128 = .ok (.iinc 1 1, 3) := by decide +kernel
theorem dX7_init_131 : decode cX7_init 131 = .ok (.goto (-22), 3) := by decide +kernel
theorem dX7_init_134 : decode cX7_init 134 = .ok (.return_, 1) := by decide +kernel
theorem dX7_coast_0 : decode cX7_coast 0 = .ok (.iload_n 1, 1) := by decide +kernel
theorem dX7_coast_1 : decode cX7_coast 1 = .ok (.invokestatic 62, 3) := by decide +kernel
theorem dX7_coast_4 : decode cX7_coast 4 = .ok (.iload_n 2, 1) := by decide +kernel
theorem dX7_coast_5 : decode cX7_coast 5 = .ok (.sipush 500, 3) := by decide +kernel
theorem dX7_coast_8 : decode cX7_coast 8 = .ok (.invokestatic 66, 3) := by decide +kernel
theorem dX7_coast_11 : decode cX7_coast 11 = .ok (.ifCond .eq 29, 3) := by decide +kernel
theorem dX7_coast_14 : decode cX7_coast 14 = .ok (.iload_n 3, 1) := by decide +kernel
theorem dX7_coast_15 : decode cX7_coast 15 = .ok (.sipush 500, 3) := by decide +kernel
theorem dX7_coast_18 : decode cX7_coast 18 = .ok (.invokestatic 66, 3) := by decide +kernel
theorem dX7_coast_21 : decode cX7_coast 21 = .ok (.ifCond .eq 19, 3) := by decide +kernel
theorem dX7_coast_24 : decode cX7_coast 24 = .ok (.iload 4, 2) := by decide +kernel
theorem dX7_coast_26 : decode cX7_coast 26 = .ok (.invokestatic 70, 3) := by decide +kernel
theorem dX7_coast_29 : decode cX7_coast 29 = .ok (.ifCond .eq 11, 3) := by decide +kernel
theorem dX7_coast_32 : decode cX7_coast 32 = .ok (.iload 5, 2) := by decide +kernel
theorem dX7_coast_34 : decode cX7_coast 34 = .ok (.invokestatic 74, 3) := by decide +kernel
theorem dX7_coast_37 : decode cX7_coast 37 = .ok (.ifCond .ne 13, 3) := by decide +kernel
theorem dX7_coast_40 : decode cX7_coast 40 = .ok (.new 77, 3) := by decide +kernel
theorem dX7_coast_43 : decode cX7_coast 43 = .ok (.dup, 1) := by decide +kernel
theorem dX7_coast_44 : decode cX7_coast 44 = .ok (.ldc 79, 2) := by decide +kernel
theorem dX7_coast_46 : decode cX7_coast 46 = .ok (.invokespecial 81, 3) := by decide +kernel
theorem dX7_coast_49 : decode cX7_coast 49 = .ok (.athrow, 1) := by decide +kernel
theorem dX7_coast_50 : decode cX7_coast 50 = .ok (.aload_n 0, 1) := by decide +kernel
theorem dX7_coast_51 : decode cX7_coast 51 = .ok (.getfield 26, 3) := by decide +kernel
theorem dX7_coast_54 : decode cX7_coast 54 = .ok (.getfield 84, 3) := by decide +kernel
theorem dX7_coast_57 : decode cX7_coast 57 = .ok (.ifCond .le 13, 3) := by decide +kernel
theorem dX7_coast_60 : decode cX7_coast 60 = .ok (.new 87, 3) := by decide +kernel
theorem dX7_coast_63 : decode cX7_coast 63 = .ok (.dup, 1) := by decide +kernel
theorem dX7_coast_64 : decode cX7_coast 64 = .ok (.ldc 89, 2) := by decide +kernel
theorem dX7_coast_66 : decode cX7_coast 66 = .ok (.invokespecial 91, 3) := by decide +kernel
theorem dX7_coast_69 : decode cX7_coast 69 = .ok (.athrow, 1) := by decide +kernel
theorem dX7_coast_70 : decode cX7_coast 70 = .ok (.aload_n 0, 1) := by decide +kernel
theorem dX7_coast_71 : decode cX7_coast 71 = .ok (.getfield 10, 3) := by decide +kernel
theorem dX7_coast_74 : decode cX7_coast 74 = .ok (.getfield 92, 3) := by decide +kernel
theorem dX7_coast_77 : decode cX7_coast 77 = .ok (.iload_n 1, 1) := by decide +kernel
theorem dX7_coast_78 : decode cX7_coast 78 = .ok (.iload_n 2, 1) := by decide +kernel
theorem dX7_coast_79 : decode cX7_coast 79 = .ok (.iastore, 1) := by decide +kernel
theorem dX7_coast_80 : decode cX7_coast 80 = .ok (.aload_n 0, 1) := by decide +kernel
theorem dX7_coast_81 : decode cX7_coast 81 = .ok (.getfield 10, 3) := by decide +kernel
theorem dX7_coast_84 : decode cX7_coast 84 = .ok (.getfield 96, 3) := by decide +kernel
theorem dX7_coast_87 : decode cX7_coast 87 = .ok (.iload_n 1, 1) := by decide +kernel
theorem dX7_coast_88 : decode cX7_coast 88 = .ok (.iload_n 3, 1) := by decide +kernel
theorem dX7_coast_89 : decode cX7_coast 89 = .ok (.iastore, 1) := by decide +kernel
theorem dX7_coast_90 : decode cX7_coast 90 = .ok (.aload_n 0, 1) := by decide +kernel
theorem dX7_coast_91 : decode cX7_coast 91 = .ok (.getfield 10, 3) := by decide +kernel
theorem dX7_coast_94 : decode cX7_coast 94 = .ok (.getfield 99, 3) := by decide +kernel
theorem dX7_coast_97 : decode cX7_coast 97 = .ok (.iload_n 1, 1) := by decide +kernel
theorem dX7_coast_98 : decode cX7_coast 98 = .ok (.iload 4, 2) := by decide +kernel
theorem dX7_coast_100 : decode cX7_coast 100 = .ok (.iastore, 1) := by decide +kernel
theorem dX7_coast_101 : decode cX7_coast 101 = .ok (.aload_n 0, 1) := by decide +kernel
theorem dX7_coast_102 : decode cX7_coast 102 = .ok (.getfield 10, 3) := by decide +kernel
theorem dX7_coast_105 : decode cX7_coast 105 = .ok (.getfield 102, 3) := by decide +kernel
theorem dX7_coast_108 : decode cX7_coast 108 = .ok (.iload_n 1, 1) := by decide +kernel
theorem dX7_coast_109 : decode cX7_coast 109 = .ok (.iload 5, 2) := by decide +kernel
theorem dX7_coast_111 : decode cX7_coast 111 = .ok (.iastore, 1) := by decide +kernel
theorem dX7_coast_112 : decode cX7_coast 112 = .ok (.return_, 1) := by decide +kernel
theorem dX7_pilot_0 : decode cX7_pilot 0 = .ok (.iload_n 1, 1) := by decide +kernel
theorem dX7_pilot_1 : decode cX7_pilot 1 = .ok (.bipush 30, 2) := by decide +kernel
theorem dX7_pilot_3 : decode cX7_pilot 3 = .ok (.invokestatic 66, 3) := by decide +kernel
theorem dX7_pilot_6 : decode cX7_pilot 6 = .ok (.ifCond .eq 12, 3) := by decide +kernel
theorem dX7_pilot_9 : decode cX7_pilot 9 = .ok (.iload_n 2, 1) := by decide +kernel
theorem dX7_pilot_10 : decode cX7_pilot 10 = .ok (.bipush 30, 2) := by decide +kernel
theorem dX7_pilot_12 : decode cX7_pilot 12 = .ok (.invokestatic 66, 3) := by decide +kernel
theorem dX7_pilot_15 : decode cX7_pilot 15 = .ok (.ifCond .ne 13, 3) := by decide +kernel
theorem dX7_pilot_18 : decode cX7_pilot 18 = .ok (.new 77, 3) := by decide +kernel
theorem dX7_pilot_21 : decode cX7_pilot 21 = .ok (.dup, 1) := by decide +kernel
theorem dX7_pilot_22 : decode cX7_pilot 22 = .ok (.ldc 105, 2) := by decide +kernel
theorem dX7_pilot_24 : decode cX7_pilot 24 = .ok (.invokespecial 81, 3) := by decide +kernel
theorem dX7_pilot_27 : decode cX7_pilot 27 = .ok (.athrow, 1) := by decide +kernel
theorem dX7_pilot_28 : decode cX7_pilot 28 = .ok (.aload_n 0, 1) := by decide +kernel
theorem dX7_pilot_29 : decode cX7_pilot 29 = .ok (.getfield 19, 3) := by decide +kernel
theorem dX7_pilot_32 : decode cX7_pilot 32 = .ok (.getfield 107, 3) := by decide +kernel
theorem dX7_pilot_35 : decode cX7_pilot 35 = .ok (.bipush 6, 2) := by decide +kernel
theorem dX7_pilot_37 : decode cX7_pilot 37 = .ok (.if_icmp .lt 13, 3) := by decide +kernel
theorem dX7_pilot_40 : decode cX7_pilot 40 = .ok (.new 87, 3) := by decide +kernel
theorem dX7_pilot_43 : decode cX7_pilot 43 = .ok (.dup, 1) := by decide +kernel
theorem dX7_pilot_44 : decode cX7_pilot 44 = .ok (.ldc 108, 2) := by decide +kernel
theorem dX7_pilot_46 : decode cX7_pilot 46 = .ok (.invokespecial 91, 3) := by decide +kernel
theorem dX7_pilot_49 : decode cX7_pilot 49 = .ok (.athrow, 1) := by decide +kernel
theorem dX7_pilot_50 : decode cX7_pilot 50 = .ok (.aload_n 0, 1) := by decide +kernel
theorem dX7_pilot_51 : decode cX7_pilot 51 = .ok (.getfield 19, 3) := by decide +kernel
theorem dX7_pilot_54 : decode cX7_pilot 54 = .ok (.getfield 107, 3) := by decide +kernel
theorem dX7_pilot_57 : decode cX7_pilot 57 = .ok (.istore_n 3, 1) := by decide +kernel
theorem dX7_pilot_58 : decode cX7_pilot 58 = .ok (.aload_n 0, 1) := by decide +kernel
theorem dX7_pilot_59 : decode cX7_pilot 59 = .ok (.getfield 19, 3) := by decide +kernel
theorem dX7_pilot_62 : decode cX7_pilot 62 = .ok (.getfield 110, 3) := by decide +kernel
theorem dX7_pilot_65 : decode cX7_pilot 65 = .ok (.iload_n 3, 1) := by decide +kernel
theorem dX7_pilot_66 : decode cX7_pilot 66 = .ok (.iload_n 1, 1) := by decide +kernel
theorem dX7_pilot_67 : decode cX7_pilot 67 = .ok (.iastore, 1) := by decide +kernel
theorem dX7_pilot_68 : decode cX7_pilot 68 = .ok (.aload_n 0, 1) := by decide +kernel
theorem dX7_pilot_69 : decode cX7_pilot 69 = .ok (.getfield 19, 3) := by decide +kernel
theorem dX7_pilot_72 : decode cX7_pilot 72 = .ok (.getfield 113, 3) := by decide +kernel
theorem dX7_pilot_75 : decode cX7_pilot 75 = .ok (.iload_n 3, 1) := by decide +kernel
theorem dX7_pilot_76 : decode cX7_pilot 76 = .ok (.iload_n 2, 1) := by decide +kernel
theorem dX7_pilot_77 : decode cX7_pilot 77 = .ok (.iastore, 1) := by decide +kernel
theorem dX7_pilot_78 : decode cX7_pilot 78 = .ok (.aload_n 0, 1) := by decide +kernel
theorem dX7_pilot_79 : decode cX7_pilot 79 = .ok (.getfield 19, 3) := by decide +kernel
theorem dX7_pilot_82 : decode cX7_pilot 82 = .ok (.iload_n 3, 1) := by decide +kernel
theorem dX7_pilot_83 : decode cX7_pilot 83 = .ok (.iconst 1, 1) := by decide +kernel
theorem dX7_pilot_84 : decode cX7_pilot 84 = .ok (.iadd, 1) := by decide +kernel
theorem dX7_pilot_85 : decode cX7_pilot 85 = .ok (.putfield 107, 3) := by decide +kernel
theorem dX7_pilot_88 : decode cX7_pilot 88 = .ok (.iload_n 3, 1) := by decide +kernel
theorem dX7_pilot_89 : decode cX7_pilot 89 = .ok (.ireturn, 1) := by decide +kernel
theorem dX7_report_0 : decode cX7_report 0 = .ok (.iload_n 1, 1) := by decide +kernel
theorem dX7_report_1 : decode cX7_report 1 = .ok (.ifCond .lt 14, 3) := by decide +kernel
theorem dX7_report_4 : decode cX7_report 4 = .ok (.iload_n 1, 1) := by decide +kernel
theorem dX7_report_5 : decode cX7_report 5 = .ok (.aload_n 0, 1) := by decide +kernel
theorem dX7_report_6 : decode cX7_report 6 = .ok (.getfield 19, 3) := by decide +kernel
theorem dX7_report_9 : decode cX7_report 9 = .ok (.getfield 107, 3) := by decide +kernel
theorem dX7_report_12 : decode cX7_report 12 = .ok (.if_icmp .lt 13, 3) := by decide +kernel
theorem dX7_report_15 : decode cX7_report 15 = .ok (.new 116, 3) := by decide +kernel
theorem dX7_report_18 : decode cX7_report 18 = .ok (.dup, 1) := by decide +kernel
theorem dX7_report_19 : decode cX7_report 19 = .ok (.ldc 118, 2) := by decide +kernel
theorem dX7_report_21 : decode cX7_report 21 = .ok (.invokespecial 120, 3) := by decide +kernel
theorem dX7_report_24 : decode cX7_report 24 = .ok (.athrow, 1) := by decide +kernel
theorem dX7_report_25 : decode cX7_report 25 = .ok (.iload_n 2, 1) := by decide +kernel
theorem dX7_report_26 : decode cX7_report 26 = .ok (.invokestatic 62, 3) := by decide +kernel
theorem dX7_report_29 : decode cX7_report 29 = .ok (.iload_n 3, 1) := by decide +kernel
theorem dX7_report_30 : decode cX7_report 30 = .ok (.invokestatic 62, 3) := by decide +kernel
theorem dX7_report_33 : decode cX7_report 33 = .ok (.iload_n 2, 1) := by decide +kernel
theorem dX7_report_34 : decode cX7_report 34 = .ok (.iload_n 3, 1) := by decide +kernel
theorem dX7_report_35 : decode cX7_report 35 = .ok (.if_icmp .ne 13, 3) := by decide +kernel
theorem dX7_report_38 : decode cX7_report 38 = .ok (.new 77, 3) := by decide +kernel
theorem dX7_report_41 : decode cX7_report 41 = .ok (.dup, 1) := by decide +kernel
theorem dX7_report_42 : decode cX7_report 42 = .ok (.ldc 121, 2) := by decide +kernel
theorem dX7_report_44 : decode cX7_report 44 = .ok (.invokespecial 81, 3) := by decide +kernel
theorem dX7_report_47 : decode cX7_report 47 = .ok (.athrow, 1) := by decide +kernel
theorem dX7_report_48 : decode cX7_report 48 = .ok (.aload_n 0, 1) := by decide +kernel
theorem dX7_report_49 : decode cX7_report 49 = .ok (.getfield 26, 3) := by decide +kernel
theorem dX7_report_52 : decode cX7_report 52 = .ok (.getfield 84, 3) := by decide +kernel
theorem dX7_report_55 : decode cX7_report 55 = .ok (.bipush 60, 2) := by decide +kernel
theorem dX7_report_57 : decode cX7_report 57 = .ok (.if_icmp .lt 13, 3) := by decide +kernel
theorem dX7_report_60 : decode cX7_report 60 = .ok (.new 87, 3) := by decide +kernel
theorem dX7_report_63 : decode cX7_report 63 = .ok (.dup, 1) := by decide +kernel
theorem dX7_report_64 : decode cX7_report 64 = .ok (.ldc 123, 2) := by decide +kernel
theorem dX7_report_66 : decode cX7_report 66 = .ok (.invokespecial 91, 3) := by decide +kernel
theorem dX7_report_69 : decode cX7_report 69 = .ok (.athrow, 1) := by decide +kernel
theorem dX7_report_70 : decode cX7_report 70 = .ok (.aload_n 0, 1) := by decide +kernel
theorem dX7_report_71 : decode cX7_report 71 = .ok (.getfield 10, 3) := by decide +kernel
theorem dX7_report_74 : decode cX7_report 74 = .ok (.getfield 92, 3) := by decide +kernel
theorem dX7_report_77 : decode cX7_report 77 = .ok (.iload_n 3, 1) := by decide +kernel
theorem dX7_report_78 : decode cX7_report 78 = .ok (.iaload, 1) := by decide +kernel
theorem dX7_report_79 : decode cX7_report 79 = .ok (.aload_n 0, 1) := by decide +kernel
theorem dX7_report_80 : decode cX7_report 80 = .ok (.getfield 10, 3) := by decide +kernel
theorem dX7_report_83 : decode cX7_report 83 = .ok (.getfield 92, 3) := by decide +kernel
theorem dX7_report_86 : decode cX7_report 86 = .ok (.iload_n 2, 1) := by decide +kernel
theorem dX7_report_87 : decode cX7_report 87 = .ok (.iaload, 1) := by decide +kernel
theorem dX7_report_88 : decode cX7_report 88 = .ok (.isub, 1) := by decide +kernel
theorem dX7_report_89 : decode cX7_report 89 = .ok (.istore 4, 2) := by decide +kernel
theorem dX7_report_91 : decode cX7_report 91 = .ok (.aload_n 0, 1) := by decide +kernel
theorem dX7_report_92 : decode cX7_report 92 = .ok (.getfield 10, 3) := by decide +kernel
theorem dX7_report_95 : decode cX7_report 95 = .ok (.getfield 96, 3) := by decide +kernel
theorem dX7_report_98 : decode cX7_report 98 = .ok (.iload_n 3, 1) := by decide +kernel
theorem dX7_report_99 : decode cX7_report 99 = .ok (.iaload, 1) := by decide +kernel
theorem dX7_report_100 : decode cX7_report 100 = .ok (.aload_n 0, 1) := by decide +kernel
theorem dX7_report_101 : decode cX7_report 101 = .ok (.getfield 10, 3) := by decide +kernel
theorem dX7_report_104 : decode cX7_report 104 = .ok (.getfield 96, 3) := by decide +kernel
theorem dX7_report_107 : decode cX7_report 107 = .ok (.iload_n 2, 1) := by decide +kernel
theorem dX7_report_108 : decode cX7_report 108 = .ok (.iaload, 1) := by decide +kernel
theorem dX7_report_109 : decode cX7_report 109 = .ok (.isub, 1) := by decide +kernel
theorem dX7_report_110 : decode cX7_report 110 = .ok (.istore 5, 2) := by decide +kernel
theorem dX7_report_112 : decode cX7_report 112 = .ok (.iload 4, 2) := by decide +kernel
theorem dX7_report_114 : decode cX7_report 114 = .ok (.iload 5, 2) := by decide +kernel
theorem dX7_report_116 : decode cX7_report 116 = .ok (.aload_n 0, 1) := by decide +kernel
theorem dX7_report_117 : decode cX7_report 117 = .ok (.getfield 19, 3) := by decide +kernel
theorem dX7_report_120 : decode cX7_report 120 = .ok (.getfield 110, 3) := by decide +kernel
theorem dX7_report_123 : decode cX7_report 123 = .ok (.iload_n 1, 1) := by decide +kernel
theorem dX7_report_124 : decode cX7_report 124 = .ok (.iaload, 1) := by decide +kernel
theorem dX7_report_125 : decode cX7_report 125 = .ok (.imul, 1) := by decide +kernel
theorem dX7_report_126 : decode cX7_report 126 = .ok (.bipush 100, 2) := by decide +kernel
theorem dX7_report_128 : decode cX7_report 128 = .ok (.idiv, 1) := by decide +kernel
theorem dX7_report_129 : decode cX7_report 129 = .ok (.isub, 1) := by decide +kernel
theorem dX7_report_130 : decode cX7_report 130 = .ok (.istore 6, 2) := by decide +kernel
theorem dX7_report_132 : decode cX7_report 132 = .ok (.iload 5, 2) := by decide +kernel
theorem dX7_report_134 : decode cX7_report 134 = .ok (.iload 4, 2) := by decide +kernel
theorem dX7_report_136 : decode cX7_report 136 = .ok (.aload_n 0, 1) := by decide +kernel
theorem dX7_report_137 : decode cX7_report 137 = .ok (.getfield 19, 3) := by decide +kernel
theorem dX7_report_140 : decode cX7_report 140 = .ok (.getfield 110, 3) := by decide +kernel
theorem dX7_report_143 : decode cX7_report 143 = .ok (.iload_n 1, 1) := by decide +kernel
theorem dX7_report_144 : decode cX7_report 144 = .ok (.iaload, 1) := by decide +kernel
theorem dX7_report_145 : decode cX7_report 145 = .ok (.imul, 1) := by decide +kernel
theorem dX7_report_146 : decode cX7_report 146 = .ok (.bipush 100, 2) := by decide +kernel
theorem dX7_report_148 : decode cX7_report 148 = .ok (.idiv, 1) := by decide +kernel
theorem dX7_report_149 : decode cX7_report 149 = .ok (.iadd, 1) := by decide +kernel
theorem dX7_report_150 : decode cX7_report 150 = .ok (.istore 7, 2) := by decide +kernel
theorem dX7_report_152 : decode cX7_report 152 = .ok (.aload_n 0, 1) := by decide +kernel
theorem dX7_report_153 : decode cX7_report 153 = .ok (.getfield 26, 3) := by decide +kernel
theorem dX7_report_156 : decode cX7_report 156 = .ok (.getfield 84, 3) := by decide +kernel
theorem dX7_report_159 : decode cX7_report 159 = .ok (.istore 8, 2) := by decide +kernel
theorem dX7_report_161 : decode cX7_report 161 = .ok (.aload_n 0, 1) := by decide +kernel
theorem dX7_report_162 : decode cX7_report 162 = .ok (.getfield 26, 3) := by decide +kernel
theorem dX7_report_165 : decode cX7_report 165 = .ok (.getfield 125, 3) := by decide +kernel
theorem dX7_report_168 : decode cX7_report 168 = .ok (.iload 8, 2) := by decide +kernel
theorem dX7_report_170 : decode cX7_report 170 = .ok (.iload_n 2, 1) := by decide +kernel
theorem dX7_report_171 : decode cX7_report 171 = .ok (.iastore, 1) := by decide +kernel
theorem dX7_report_172 : decode cX7_report 172 = .ok (.aload_n 0, 1) := by decide +kernel
theorem dX7_report_173 : decode cX7_report 173 = .ok (.getfield 26, 3) := by decide +kernel
theorem dX7_report_176 : decode cX7_report 176 = .ok (.getfield 128, 3) := by decide +kernel
theorem dX7_report_179 : decode cX7_report 179 = .ok (.iload 8, 2) := by decide +kernel
theorem dX7_report_181 : decode cX7_report 181 = .ok (.iload_n 3, 1) := by decide +kernel
theorem dX7_report_182 : decode cX7_report 182 = .ok (.iastore, 1) := by decide +kernel
theorem dX7_report_183 : decode cX7_report 183 = .ok (.aload_n 0, 1) := by decide +kernel
theorem dX7_report_184 : decode cX7_report 184 = .ok (.getfield 26, 3) := by decide +kernel
theorem dX7_report_187 : decode cX7_report 187 = .ok (.getfield 131, 3) := by decide +kernel
theorem dX7_report_190 : decode cX7_report 190 = .ok (.iload 8, 2) := by decide +kernel
theorem dX7_report_192 : decode cX7_report 192 = .ok (.iload 6, 2) := by decide +kernel
theorem dX7_report_194 : decode cX7_report 194 = .ok (.iload 6, 2) := by decide +kernel
theorem dX7_report_196 : decode cX7_report 196 = .ok (.aload_n 0, 1) := by decide +kernel
theorem dX7_report_197 : decode cX7_report 197 = .ok (.getfield 19, 3) := by decide +kernel
theorem dX7_report_200 : decode cX7_report 200 = .ok (.getfield 113, 3) := by decide +kernel
theorem dX7_report_203 : decode cX7_report 203 = .ok (.iload_n 1, 1) := by decide +kernel
theorem dX7_report_204 : decode cX7_report 204 = .ok (.iaload, 1) := by decide +kernel
theorem dX7_report_205 : decode cX7_report 205 = .ok (.imul, 1) := by decide +kernel
theorem dX7_report_206 : decode cX7_report 206 = .ok (.bipush 100, 2) := by decide +kernel
theorem dX7_report_208 : decode cX7_report 208 = .ok (.idiv, 1) := by decide +kernel
theorem dX7_report_209 : decode cX7_report 209 = .ok (.iadd, 1) := by decide +kernel
theorem dX7_report_210 : decode cX7_report 210 = .ok (.iastore, 1) := by decide +kernel
theorem dX7_report_211 : decode cX7_report 211 = .ok (.aload_n 0, 1) := by decide +kernel
theorem dX7_report_212 : decode cX7_report 212 = .ok (.getfield 26, 3) := by decide +kernel
theorem dX7_report_215 : decode cX7_report 215 = .ok (.getfield 132, 3) := by decide +kernel
theorem dX7_report_218 : decode cX7_report 218 = .ok (.iload 8, 2) := by decide +kernel
theorem dX7_report_220 : decode cX7_report 220 = .ok (.iload 7, 2) := by decide +kernel
theorem dX7_report_222 : decode cX7_report 222 = .ok (.iload 7, 2) := by decide +kernel
theorem dX7_report_224 : decode cX7_report 224 = .ok (.aload_n 0, 1) := by decide +kernel
theorem dX7_report_225 : decode cX7_report 225 = .ok (.getfield 19, 3) := by decide +kernel
theorem dX7_report_228 : decode cX7_report 228 = .ok (.getfield 113, 3) := by decide +kernel
theorem dX7_report_231 : decode cX7_report 231 = .ok (.iload_n 1, 1) := by decide +kernel
theorem dX7_report_232 : decode cX7_report 232 = .ok (.iaload, 1) := by decide +kernel
theorem dX7_report_233 : decode cX7_report 233 = .ok (.imul, 1) := by decide +kernel
theorem dX7_report_234 : decode cX7_report 234 = .ok (.bipush 100, 2) := by decide +kernel
theorem dX7_report_236 : decode cX7_report 236 = .ok (.idiv, 1) := by decide +kernel
theorem dX7_report_237 : decode cX7_report 237 = .ok (.iadd, 1) := by decide +kernel
theorem dX7_report_238 : decode cX7_report 238 = .ok (.iastore, 1) := by decide +kernel
theorem dX7_report_239 : decode cX7_report 239 = .ok (.aload_n 0, 1) := by decide +kernel
theorem dX7_report_240 : decode cX7_report 240 = .ok (.getfield 26, 3) := by decide +kernel
theorem dX7_report_243 : decode cX7_report 243 = .ok (.iload 8, 2) := by decide +kernel
theorem dX7_report_245 : decode cX7_report 245 = .ok (.iconst 1, 1) := by decide +kernel
theorem dX7_report_246 : decode cX7_report 246 = .ok (.iadd, 1) := by decide +kernel
theorem dX7_report_247 : decode cX7_report 247 = .ok (.putfield 84, 3) := by decide +kernel
theorem dX7_report_250 : decode cX7_report 250 = .ok (.iload 8, 2) := by decide +kernel
theorem dX7_report_252 : decode cX7_report 252 = .ok (.ireturn, 1) := by decide +kernel
theorem dX7_chart_0 : decode cX7_chart 0 = .ok (.iload_n 1, 1) := by decide +kernel
theorem dX7_chart_1 : decode cX7_chart 1 = .ok (.iconst 1, 1) := by decide +kernel
theorem dX7_chart_2 : decode cX7_chart 2 = .ok (.if_icmp .lt 21, 3) := by decide +kernel
theorem dX7_chart_5 : decode cX7_chart 5 = .ok (.iload_n 1, 1) := by decide +kernel
theorem dX7_chart_6 : decode cX7_chart 6 = .ok (.aload_n 0, 1) := by decide +kernel
theorem dX7_chart_7 : decode cX7_chart 7 = .ok (.getfield 26, 3) := by decide +kernel
theorem dX7_chart_10 : decode cX7_chart 10 = .ok (.getfield 84, 3) := by decide +kernel
theorem dX7_chart_13 : decode cX7_chart 13 = .ok (.if_icmp .gt 10, 3) := by decide +kernel
theorem dX7_chart_16 : decode cX7_chart 16 = .ok (.iload_n 2, 1) := by decide +kernel
theorem dX7_chart_17 : decode cX7_chart 17 = .ok (.invokestatic 74, 3) := by decide +kernel
theorem dX7_chart_20 : decode cX7_chart 20 = .ok (.ifCond .ne 13, 3) := by decide +kernel
theorem dX7_chart_23 : decode cX7_chart 23 = .ok (.new 77, 3) := by decide +kernel
theorem dX7_chart_26 : decode cX7_chart 26 = .ok (.dup, 1) := by decide +kernel
theorem dX7_chart_27 : decode cX7_chart 27 = .ok (.ldc 133, 2) := by decide +kernel
theorem dX7_chart_29 : decode cX7_chart 29 = .ok (.invokespecial 81, 3) := by decide +kernel
theorem dX7_chart_32 : decode cX7_chart 32 = .ok (.athrow, 1) := by decide +kernel
theorem dX7_chart_33 : decode cX7_chart 33 = .ok (.aload_n 0, 1) := by decide +kernel
theorem dX7_chart_34 : decode cX7_chart 34 = .ok (.invokevirtual 135, 3) := by decide +kernel
theorem dX7_chart_37 : decode cX7_chart 37 = .ok (.aload_n 0, 1) := by decide +kernel
theorem dX7_chart_38 : decode cX7_chart 38 = .ok (.getfield 56, 3) := by decide +kernel
theorem dX7_chart_41 : decode cX7_chart 41 = .ok (.istore_n 3, 1) := by decide +kernel
theorem dX7_chart_42 : decode cX7_chart 42 = .ok (.aload_n 0, 1) := by decide +kernel
theorem dX7_chart_43 : decode cX7_chart 43 = .ok (.getfield 45, 3) := by decide +kernel
theorem dX7_chart_46 : decode cX7_chart 46 = .ok (.iload_n 3, 1) := by decide +kernel
theorem dX7_chart_47 : decode cX7_chart 47 = .ok (.aaload, 1) := by decide +kernel
theorem dX7_chart_48 : decode cX7_chart 48 = .ok (.astore 4, 2) := by decide +kernel
theorem dX7_chart_50 : decode cX7_chart 50 = .ok (.aload 4, 2) := by decide +kernel
theorem dX7_chart_52 : decode cX7_chart 52 = .ok (.iload_n 2, 1) := by decide +kernel
theorem dX7_chart_53 : decode cX7_chart 53 = .ok (.putfield 138, 3) := by decide +kernel
theorem dX7_chart_56 : decode cX7_chart 56 = .ok (.iconst 0, 1) := by decide +kernel
theorem dX7_chart_57 : decode cX7_chart 57 = .ok (.istore 5, 2) := by decide +kernel
theorem dX7_chart_59 : decode cX7_chart 59 = .ok (.iload 5, 2) := by decide +kernel
theorem dX7_chart_61 : decode cX7_chart 61 = .ok (.bipush 24, 2) := by decide +kernel
theorem dX7_chart_63 : decode cX7_chart 63 = .ok (.if_icmp .ge 34, 3) := by decide +kernel
theorem dX7_chart_66 : decode cX7_chart 66 = .ok (.aload 4, 2) := by decide +kernel
theorem dX7_chart_68 : decode cX7_chart 68 = .ok (.iload 5, 2) := by decide +kernel
theorem dX7_chart_70 : decode cX7_chart 70 = .ok (.invokevirtual 140, 3) := by decide +kernel
theorem dX7_chart_73 : decode cX7_chart 73 = .ok (.aload 4, 2) := by decide +kernel
theorem dX7_chart_75 : decode cX7_chart 75 = .ok (.getfield 143, 3) := by decide +kernel
theorem dX7_chart_78 : decode cX7_chart 78 = .ok (.iload 5, 2) := by decide +kernel
theorem dX7_chart_80 : decode cX7_chart 80 = .ok (.aload_n 0, 1) := by decide +kernel
theorem dX7_chart_81 : decode cX7_chart 81 = .ok (.getfield 10, 3) := by decide +kernel
theorem dX7_chart_84 : decode cX7_chart 84 = .ok (.getfield 99, 3) := by decide +kernel
theorem dX7_chart_87 : decode cX7_chart 87 = .ok (.iload 5, 2) := by decide +kernel
theorem dX7_chart_89 : decode cX7_chart 89 = .ok (.iaload, 1) := by decide +kernel
theorem dX7_chart_90 : decode cX7_chart 90 = .ok (.iastore, 1) := by decide +kernel
theorem dX7_chart_91 : decode cX7_chart 91 = .ok (.iinc 5 1, 3) := by decide +kernel
theorem dX7_chart_94 : decode cX7_chart 94 = .ok (.goto (-35), 3) := by decide +kernel
theorem dX7_chart_97 : decode cX7_chart 97 = .ok (.iconst 0, 1) := by decide +kernel
theorem dX7_chart_98 : decode cX7_chart 98 = .ok (.istore 5, 2) := by decide +kernel
theorem dX7_chart_100 : decode cX7_chart 100 = .ok (.iload 5, 2) := by decide +kernel
theorem dX7_chart_102 : decode cX7_chart 102 = .ok (.iconst 3, 1) := by decide +kernel
theorem dX7_chart_103 : decode cX7_chart 103 = .ok (.if_icmp .ge 19, 3) := by decide +kernel
theorem dX7_chart_106 : decode cX7_chart 106 = .ok (.aload 4, 2) := by decide +kernel
theorem dX7_chart_108 : decode cX7_chart 108 = .ok (.getfield 144, 3) := by decide +kernel
theorem dX7_chart_111 : decode cX7_chart 111 = .ok (.iload 5, 2) := by decide +kernel
theorem dX7_chart_113 : decode cX7_chart 113 = .ok (.bipush 100, 2) := by decide +kernel
theorem dX7_chart_115 : decode cX7_chart 115 = .ok (.iastore, 1) := by decide +kernel
theorem dX7_chart_116 : decode cX7_chart 116 = .ok (.iinc 5 1, 3) := by decide +kernel
theorem dX7_chart_119 : decode cX7_chart 119 = .ok (.goto (-19), 3) := by decide +kernel
theorem dX7_chart_122 : decode cX7_chart 122 = .ok (.aload 4, 2) := by decide +kernel
theorem dX7_chart_124 : decode cX7_chart 124 = .ok (.iconst 0, 1) := by decide +kernel
theorem dX7_chart_125 : decode cX7_chart 125 = .ok (.aload_n 0, 1) := by decide +kernel
theorem dX7_chart_126 : decode cX7_chart 126 = .ok (.getfield 10, 3) := by decide +kernel
theorem dX7_chart_129 : decode cX7_chart 129 = .ok (.getfield 92, 3) := by decide +kernel
theorem dX7_chart_132 : decode cX7_chart 132 = .ok (.iconst 0, 1) := by decide +kernel
theorem dX7_chart_133 : decode cX7_chart 133 = .ok (.iaload, 1) := by decide +kernel
theorem dX7_chart_134 : decode cX7_chart 134 = .ok (.aload_n 0, 1) := by decide +kernel
theorem dX7_chart_135 : decode cX7_chart 135 = .ok (.getfield 10, 3) := by decide +kernel
theorem dX7_chart_138 : decode cX7_chart 138 = .ok (.getfield 96, 3) := by decide +kernel
theorem dX7_chart_141 : decode cX7_chart 141 = .ok (.iconst 0, 1) := by decide +kernel
theorem dX7_chart_142 : decode cX7_chart 142 = .ok (.iaload, 1) := by decide +kernel
theorem dX7_chart_143 : decode cX7_chart 143 = .ok (.iconst (-1), 1) := by decide +kernel
theorem dX7_chart_144 : decode cX7_chart 144 = .ok (.invokevirtual 147, 3) := by decide +kernel
theorem dX7_chart_147 : decode cX7_chart 147 = .ok (.aload_n 0, 1) := by decide +kernel
theorem dX7_chart_148 : decode cX7_chart 148 = .ok (.aload 4, 2) := by decide +kernel
theorem dX7_chart_150 : decode cX7_chart 150 = .ok (.iload_n 1, 1) := by decide +kernel
theorem dX7_chart_151 : decode cX7_chart 151 = .ok (.invokevirtual 151, 3) := by decide +kernel
theorem dX7_chart_154 : decode cX7_chart 154 = .ok (.aload_n 0, 1) := by decide +kernel
theorem dX7_chart_155 : decode cX7_chart 155 = .ok (.iload_n 3, 1) := by decide +kernel
theorem dX7_chart_156 : decode cX7_chart 156 = .ok (.iconst 1, 1) := by decide +kernel
theorem dX7_chart_157 : decode cX7_chart 157 = .ok (.iadd, 1) := by decide +kernel
theorem dX7_chart_158 : decode cX7_chart 158 = .ok (.putfield 56, 3) := by decide +kernel
theorem dX7_chart_161 : decode cX7_chart 161 = .ok (.iload_n 3, 1) := by decide +kernel
theorem dX7_chart_162 : decode cX7_chart 162 = .ok (.ireturn, 1) := by decide +kernel
theorem dX7_hand_0 : decode cX7_hand 0 = .ok (.aload_n 0, 1) := by decide +kernel
theorem dX7_hand_1 : decode cX7_hand 1 = .ok (.iload_n 1, 1) := by decide +kernel
theorem dX7_hand_2 : decode cX7_hand 2 = .ok (.invokevirtual 155, 3) := by decide +kernel
theorem dX7_hand_5 : decode cX7_hand 5 = .ok (.astore_n 3, 1) := by decide +kernel
theorem dX7_hand_6 : decode cX7_hand 6 = .ok (.iload_n 2, 1) := by decide +kernel
theorem dX7_hand_7 : decode cX7_hand 7 = .ok (.bipush 9, 2) := by decide +kernel
theorem dX7_hand_9 : decode cX7_hand 9 = .ok (.invokestatic 66, 3) := by decide +kernel
theorem dX7_hand_12 : decode cX7_hand 12 = .ok (.ifCond .ne 13, 3) := by decide +kernel
theorem dX7_hand_15 : decode cX7_hand 15 = .ok (.new 77, 3) := by decide +kernel
theorem dX7_hand_18 : decode cX7_hand 18 = .ok (.dup, 1) := by decide +kernel
theorem dX7_hand_19 : decode cX7_hand 19 = .ok (.ldc 159, 2) := by decide +kernel
theorem dX7_hand_21 : decode cX7_hand 21 = .ok (.invokespecial 81, 3) := by decide +kernel
theorem dX7_hand_24 : decode cX7_hand 24 = .ok (.athrow, 1) := by decide +kernel
theorem dX7_hand_25 : decode cX7_hand 25 = .ok (.aload_n 3, 1) := by decide +kernel
theorem dX7_hand_26 : decode cX7_hand 26 = .ok (.getfield 161, 3) := by decide +kernel
theorem dX7_hand_29 : decode cX7_hand 29 = .ok (.istore 4, 2) := by decide +kernel
theorem dX7_hand_31 : decode cX7_hand 31 = .ok (.aload_n 3, 1) := by decide +kernel
theorem dX7_hand_32 : decode cX7_hand 32 = .ok (.iload_n 2, 1) := by decide +kernel
theorem dX7_hand_33 : decode cX7_hand 33 = .ok (.putfield 161, 3) := by decide +kernel
theorem dX7_hand_36 : decode cX7_hand 36 = .ok (.iload 4, 2) := by decide +kernel
theorem dX7_hand_38 : decode cX7_hand 38 = .ok (.ireturn, 1) := by decide +kernel
theorem dX7_reads_0 : decode cX7_reads 0 = .ok (.aload_n 0, 1) := by decide +kernel
theorem dX7_reads_1 : decode cX7_reads 1 = .ok (.iload_n 1, 1) := by decide +kernel
theorem dX7_reads_2 : decode cX7_reads 2 = .ok (.invokevirtual 155, 3) := by decide +kernel
theorem dX7_reads_5 : decode cX7_reads 5 = .ok (.astore 4, 2) := by decide +kernel
theorem dX7_reads_7 : decode cX7_reads 7 = .ok (.iload_n 2, 1) := by decide +kernel
theorem dX7_reads_8 : decode cX7_reads 8 = .ok (.invokestatic 70, 3) := by decide +kernel
theorem dX7_reads_11 : decode cX7_reads 11 = .ok (.ifCond .eq 10, 3) := by decide +kernel
theorem dX7_reads_14 : decode cX7_reads 14 = .ok (.iload_n 3, 1) := by decide +kernel
theorem dX7_reads_15 : decode cX7_reads 15 = .ok (.invokestatic 70, 3) := by decide +kernel
theorem dX7_reads_18 : decode cX7_reads 18 = .ok (.ifCond .ne 13, 3) := by decide +kernel
theorem dX7_reads_21 : decode cX7_reads 21 = .ok (.new 77, 3) := by decide +kernel
theorem dX7_reads_24 : decode cX7_reads 24 = .ok (.dup, 1) := by decide +kernel
theorem dX7_reads_25 : decode cX7_reads 25 = .ok (.ldc 164, 2) := by decide +kernel
theorem dX7_reads_27 : decode cX7_reads 27 = .ok (.invokespecial 81, 3) := by decide +kernel
theorem dX7_reads_30 : decode cX7_reads 30 = .ok (.athrow, 1) := by decide +kernel
theorem dX7_reads_31 : decode cX7_reads 31 = .ok (.aload 4, 2) := by decide +kernel
theorem dX7_reads_33 : decode cX7_reads 33 = .ok (.getfield 166, 3) := by decide +kernel
theorem dX7_reads_36 : decode cX7_reads 36 = .ok (.iload_n 2, 1) := by decide +kernel
theorem dX7_reads_37 : decode cX7_reads 37 = .ok (.iload_n 3, 1) := by decide +kernel
theorem dX7_reads_38 : decode cX7_reads 38 = .ok (.iastore, 1) := by decide +kernel
theorem dX7_reads_39 : decode cX7_reads 39 = .ok (.return_, 1) := by decide +kernel
theorem dX7_copy_0 : decode cX7_copy 0 = .ok (.aload_n 0, 1) := by decide +kernel
theorem dX7_copy_1 : decode cX7_copy 1 = .ok (.iload_n 1, 1) := by decide +kernel
theorem dX7_copy_2 : decode cX7_copy 2 = .ok (.invokevirtual 169, 3) := by decide +kernel
theorem dX7_copy_5 : decode cX7_copy 5 = .ok (.astore 5, 2) := by decide +kernel
theorem dX7_copy_7 : decode cX7_copy 7 = .ok (.aload_n 0, 1) := by decide +kernel
theorem dX7_copy_8 : decode cX7_copy 8 = .ok (.iload_n 2, 1) := by decide +kernel
theorem dX7_copy_9 : decode cX7_copy 9 = .ok (.invokevirtual 155, 3) := by decide +kernel
theorem dX7_copy_12 : decode cX7_copy 12 = .ok (.astore 6, 2) := by decide +kernel
theorem dX7_copy_14 : decode cX7_copy 14 = .ok (.iload_n 3, 1) := by decide +kernel
theorem dX7_copy_15 : decode cX7_copy 15 = .ok (.ifCond .lt 26, 3) := by decide +kernel
theorem dX7_copy_18 : decode cX7_copy 18 = .ok (.iload_n 3, 1) := by decide +kernel
theorem dX7_copy_19 : decode cX7_copy 19 = .ok (.iconst 2, 1) := by decide +kernel
theorem dX7_copy_20 : decode cX7_copy 20 = .ok (.if_icmp .gt 21, 3) := by decide +kernel
theorem dX7_copy_23 : decode cX7_copy 23 = .ok (.iload 4, 2) := by decide +kernel
theorem dX7_copy_25 : decode cX7_copy 25 = .ok (.invokestatic 74, 3) := by decide +kernel
theorem dX7_copy_28 : decode cX7_copy 28 = .ok (.ifCond .eq 13, 3) := by decide +kernel
theorem dX7_copy_31 : decode cX7_copy 31 = .ok (.iload 4, 2) := by decide +kernel
theorem dX7_copy_33 : decode cX7_copy 33 = .ok (.aload 5, 2) := by decide +kernel
theorem dX7_copy_35 : decode cX7_copy 35 = .ok (.getfield 138, 3) := by decide +kernel
theorem dX7_copy_38 : decode cX7_copy 38 = .ok (.if_icmp .ge 13, 3) := by decide +kernel
theorem dX7_copy_41 : decode cX7_copy 41 = .ok (.new 77, 3) := by decide +kernel
theorem dX7_copy_44 : decode cX7_copy 44 = .ok (.dup, 1) := by decide +kernel
theorem dX7_copy_45 : decode cX7_copy 45 = .ok (.ldc 173, 2) := by decide +kernel
theorem dX7_copy_47 : decode cX7_copy 47 = .ok (.invokespecial 81, 3) := by decide +kernel
theorem dX7_copy_50 : decode cX7_copy 50 = .ok (.athrow, 1) := by decide +kernel
theorem dX7_copy_51 : decode cX7_copy 51 = .ok (.aload_n 0, 1) := by decide +kernel
theorem dX7_copy_52 : decode cX7_copy 52 = .ok (.invokevirtual 135, 3) := by decide +kernel
theorem dX7_copy_55 : decode cX7_copy 55 = .ok (.aload_n 0, 1) := by decide +kernel
theorem dX7_copy_56 : decode cX7_copy 56 = .ok (.getfield 56, 3) := by decide +kernel
theorem dX7_copy_59 : decode cX7_copy 59 = .ok (.istore 7, 2) := by decide +kernel
theorem dX7_copy_61 : decode cX7_copy 61 = .ok (.aload_n 0, 1) := by decide +kernel
theorem dX7_copy_62 : decode cX7_copy 62 = .ok (.getfield 45, 3) := by decide +kernel
theorem dX7_copy_65 : decode cX7_copy 65 = .ok (.iload 7, 2) := by decide +kernel
theorem dX7_copy_67 : decode cX7_copy 67 = .ok (.aaload, 1) := by decide +kernel
theorem dX7_copy_68 : decode cX7_copy 68 = .ok (.astore 8, 2) := by decide +kernel
theorem dX7_copy_70 : decode cX7_copy 70 = .ok (.aload 8, 2) := by decide +kernel
theorem dX7_copy_72 : decode cX7_copy 72 = .ok (.iload 4, 2) := by decide +kernel
theorem dX7_copy_74 : decode cX7_copy 74 = .ok (.putfield 138, 3) := by decide +kernel
theorem dX7_copy_77 : decode cX7_copy 77 = .ok (.iconst 0, 1) := by decide +kernel
theorem dX7_copy_78 : decode cX7_copy 78 = .ok (.istore 9, 2) := by decide +kernel
theorem dX7_copy_80 : decode cX7_copy 80 = .ok (.iload 9, 2) := by decide +kernel
theorem dX7_copy_82 : decode cX7_copy 82 = .ok (.bipush 24, 2) := by decide +kernel
theorem dX7_copy_84 : decode cX7_copy 84 = .ok (.if_icmp .ge 101, 3) := by decide +kernel
theorem dX7_copy_87 : decode cX7_copy 87 = .ok (.aload 8, 2) := by decide +kernel
theorem dX7_copy_89 : decode cX7_copy 89 = .ok (.getfield 143, 3) := by decide +kernel
theorem dX7_copy_92 : decode cX7_copy 92 = .ok (.iload 9, 2) := by decide +kernel
theorem dX7_copy_94 : decode cX7_copy 94 = .ok (.aload 6, 2) := by decide +kernel
theorem dX7_copy_96 : decode cX7_copy 96 = .ok (.aload 5, 2) := by decide +kernel
theorem dX7_copy_98 : decode cX7_copy 98 = .ok (.getfield 143, 3) := by decide +kernel
theorem dX7_copy_101 : decode cX7_copy 101 = .ok (.iload 9, 2) := by decide +kernel
theorem dX7_copy_103 : decode cX7_copy 103 = .ok (.iaload, 1) := by decide +kernel
theorem dX7_copy_104 : decode cX7_copy 104 = .ok (.invokevirtual 175, 3) := by decide +kernel
theorem dX7_copy_107 : decode cX7_copy 107 = .ok (.iastore, 1) := by decide +kernel
theorem dX7_copy_108 : decode cX7_copy 108 = .ok (.aload 5, 2) := by decide +kernel
theorem dX7_copy_110 : decode cX7_copy 110 = .ok (.iload 9, 2) := by decide +kernel
theorem dX7_copy_112 : decode cX7_copy 112 = .ok (.invokevirtual 179, 3) := by decide +kernel
theorem dX7_copy_115 : decode cX7_copy 115 = .ok (.ifCond .eq 57, 3) := by decide +kernel
theorem dX7_copy_118 : decode cX7_copy 118 = .ok (.aload 5, 2) := by decide +kernel
theorem dX7_copy_120 : decode cX7_copy 120 = .ok (.getfield 182, 3) := by decide +kernel
theorem dX7_copy_123 : decode cX7_copy 123 = .ok (.iload 9, 2) := by decide +kernel
theorem dX7_copy_125 : decode cX7_copy 125 = .ok (.iaload, 1) := by decide +kernel
theorem dX7_copy_126 : decode cX7_copy 126 = .ok (.iload_n 3, 1) := by decide +kernel
theorem dX7_copy_127 : decode cX7_copy 127 = .ok (.aload 6, 2) := by decide +kernel
theorem dX7_copy_129 : decode cX7_copy 129 = .ok (.getfield 161, 3) := by decide +kernel
theorem dX7_copy_132 : decode cX7_copy 132 = .ok (.invokestatic 183, 3) := by decide +kernel
theorem dX7_copy_135 : decode cX7_copy 135 = .ok (.istore 10, 2) := by decide +kernel
theorem dX7_copy_137 : decode cX7_copy 137 = .ok (.aload 5, 2) := by decide +kernel
theorem dX7_copy_139 : decode cX7_copy 139 = .ok (.getfield 187, 3) := by decide +kernel
theorem dX7_copy_142 : decode cX7_copy 142 = .ok (.iload 9, 2) := by decide +kernel
theorem dX7_copy_144 : decode cX7_copy 144 = .ok (.iaload, 1) := by decide +kernel
theorem dX7_copy_145 : decode cX7_copy 145 = .ok (.iload_n 3, 1) := by decide +kernel
theorem dX7_copy_146 : decode cX7_copy 146 = .ok (.aload 6, 2) := by decide +kernel
theorem dX7_copy_148 : decode cX7_copy 148 = .ok (.getfield 161, 3) := by decide +kernel
theorem dX7_copy_151 : decode cX7_copy 151 = .ok (.ineg, 1) := by decide +kernel
theorem dX7_copy_152 : decode cX7_copy 152 = .ok (.invokestatic 183, 3) := by decide +kernel
theorem dX7_copy_155 : decode cX7_copy 155 = .ok (.istore 11, 2) := by decide +kernel
theorem dX7_copy_157 : decode cX7_copy 157 = .ok (.aload 8, 2) := by decide +kernel
theorem dX7_copy_159 : decode cX7_copy 159 = .ok (.iload 9, 2) := by decide +kernel
theorem dX7_copy_161 : decode cX7_copy 161 = .ok (.iload 10, 2) := by decide +kernel
theorem dX7_copy_163 : decode cX7_copy 163 = .ok (.iload 11, 2) := by decide +kernel
theorem dX7_copy_165 : decode cX7_copy 165 = .ok (.iload_n 1, 1) := by decide +kernel
theorem dX7_copy_166 : decode cX7_copy 166 = .ok (.invokevirtual 147, 3) := by decide +kernel
theorem dX7_copy_169 : decode cX7_copy 169 = .ok (.goto 10, 3) := by decide +kernel
theorem dX7_copy_172 : decode cX7_copy 172 = .ok (.aload 8, 2) := by decide +kernel
theorem dX7_copy_174 : decode cX7_copy 174 = .ok (.iload 9, 2) := by decide +kernel
theorem dX7_copy_176 : decode cX7_copy 176 = .ok (.invokevirtual 140, 3) := by decide +kernel
theorem dX7_copy_179 : decode cX7_copy 179 = .ok (.iinc 9 1, 3) := by decide +kernel
theorem dX7_copy_182 : decode cX7_copy 182 = .ok (.goto (-102), 3) := by decide +kernel
theorem dX7_copy_185 : decode cX7_copy 185 = .ok (.aload 8, 2) := by decide +kernel
theorem dX7_copy_187 : decode cX7_copy 187 = .ok (.aload 5, 2) := by decide +kernel
theorem dX7_copy_189 : decode cX7_copy 189 = .ok (.invokevirtual 188, 3) := by decide +kernel
theorem dX7_copy_192 : decode cX7_copy 192 = .ok (.aload_n 0, 1) := by decide +kernel
theorem dX7_copy_193 : decode cX7_copy 193 = .ok (.iload 7, 2) := by decide +kernel
theorem dX7_copy_195 : decode cX7_copy 195 = .ok (.iconst 1, 1) := by decide +kernel
theorem dX7_copy_196 : decode cX7_copy 196 = .ok (.iadd, 1) := by decide +kernel
theorem dX7_copy_197 : decode cX7_copy 197 = .ok (.putfield 56, 3) := by decide +kernel
theorem dX7_copy_200 : decode cX7_copy 200 = .ok (.iload 7, 2) := by decide +kernel
theorem dX7_copy_202 : decode cX7_copy 202 = .ok (.ireturn, 1) := by decide +kernel
theorem dX7_paste_0 : decode cX7_paste 0 = .ok (.aload_n 0, 1) := by decide +kernel
theorem dX7_paste_1 : decode cX7_paste 1 = .ok (.iload_n 1, 1) := by decide +kernel
theorem dX7_paste_2 : decode cX7_paste 2 = .ok (.invokevirtual 169, 3) := by decide +kernel
theorem dX7_paste_5 : decode cX7_paste 5 = .ok (.astore 5, 2) := by decide +kernel
theorem dX7_paste_7 : decode cX7_paste 7 = .ok (.aload_n 0, 1) := by decide +kernel
theorem dX7_paste_8 : decode cX7_paste 8 = .ok (.iload_n 2, 1) := by decide +kernel
theorem dX7_paste_9 : decode cX7_paste 9 = .ok (.invokevirtual 169, 3) := by decide +kernel
theorem dX7_paste_12 : decode cX7_paste 12 = .ok (.astore 6, 2) := by decide +kernel
theorem dX7_paste_14 : decode cX7_paste 14 = .ok (.iload_n 3, 1) := by decide +kernel
theorem dX7_paste_15 : decode cX7_paste 15 = .ok (.invokestatic 62, 3) := by decide +kernel
theorem dX7_paste_18 : decode cX7_paste 18 = .ok (.iload 4, 2) := by decide +kernel
theorem dX7_paste_20 : decode cX7_paste 20 = .ok (.invokestatic 62, 3) := by decide +kernel
theorem dX7_paste_23 : decode cX7_paste 23 = .ok (.iload_n 1, 1) := by decide +kernel
theorem dX7_paste_24 : decode cX7_paste 24 = .ok (.iload_n 2, 1) := by decide +kernel
theorem dX7_paste_25 : decode cX7_paste 25 = .ok (.if_icmp .eq 9, 3) := by decide +kernel
theorem dX7_paste_28 : decode cX7_paste 28 = .ok (.iload 4, 2) := by decide +kernel
theorem dX7_paste_30 : decode cX7_paste 30 = .ok (.iload_n 3, 1) := by decide +kernel
theorem dX7_paste_31 : decode cX7_paste 31 = .ok (.if_icmp .ge 13, 3) := by decide +kernel
theorem dX7_paste_34 : decode cX7_paste 34 = .ok (.new 77, 3) := by decide +kernel
theorem dX7_paste_37 : decode cX7_paste 37 = .ok (.dup, 1) := by decide +kernel
theorem dX7_paste_38 : decode cX7_paste 38 = .ok (.ldc 192, 2) := by decide +kernel
theorem dX7_paste_40 : decode cX7_paste 40 = .ok (.invokespecial 81, 3) := by decide +kernel
theorem dX7_paste_43 : decode cX7_paste 43 = .ok (.athrow, 1) := by decide +kernel
theorem dX7_paste_44 : decode cX7_paste 44 = .ok (.aload 6, 2) := by decide +kernel
theorem dX7_paste_46 : decode cX7_paste 46 = .ok (.getfield 138, 3) := by decide +kernel
theorem dX7_paste_49 : decode cX7_paste 49 = .ok (.aload 5, 2) := by decide +kernel
theorem dX7_paste_51 : decode cX7_paste 51 = .ok (.getfield 138, 3) := by decide +kernel
theorem dX7_paste_54 : decode cX7_paste 54 = .ok (.if_icmp .le 13, 3) := by decide +kernel
theorem dX7_paste_57 : decode cX7_paste 57 = .ok (.new 87, 3) := by decide +kernel
theorem dX7_paste_60 : decode cX7_paste 60 = .ok (.dup, 1) := by decide +kernel
theorem dX7_paste_61 : decode cX7_paste 61 = .ok (.ldc 194, 2) := by decide +kernel
theorem dX7_paste_63 : decode cX7_paste 63 = .ok (.invokespecial 91, 3) := by decide +kernel
theorem dX7_paste_66 : decode cX7_paste 66 = .ok (.athrow, 1) := by decide +kernel
theorem dX7_paste_67 : decode cX7_paste 67 = .ok (.aload_n 0, 1) := by decide +kernel
theorem dX7_paste_68 : decode cX7_paste 68 = .ok (.iload_n 1, 1) := by decide +kernel
theorem dX7_paste_69 : decode cX7_paste 69 = .ok (.iload_n 2, 1) := by decide +kernel
theorem dX7_paste_70 : decode cX7_paste 70 = .ok (.iload_n 3, 1) := by decide +kernel
theorem dX7_paste_71 : decode cX7_paste 71 = .ok (.iload 4, 2) := by decide +kernel
theorem dX7_paste_73 : decode cX7_paste 73 = .ok (.invokevirtual 196, 3) := by decide +kernel
theorem dX7_paste_76 : decode cX7_paste 76 = .ok (.ifCond .eq 13, 3) := by decide +kernel
theorem dX7_paste_79 : decode cX7_paste 79 = .ok (.new 87, 3) := by decide +kernel
theorem dX7_paste_82 : decode cX7_paste 82 = .ok (.dup, 1) := by decide +kernel
theorem dX7_paste_83 : decode cX7_paste 83 = .ok (.ldc 200, 2) := by decide +kernel
theorem dX7_paste_85 : decode cX7_paste 85 = .ok (.invokespecial 91, 3) := by decide +kernel
theorem dX7_paste_88 : decode cX7_paste 88 = .ok (.athrow, 1) := by decide +kernel
theorem dX7_paste_89 : decode cX7_paste 89 = .ok (.aload 5, 2) := by decide +kernel
theorem dX7_paste_91 : decode cX7_paste 91 = .ok (.iload_n 3, 1) := by decide +kernel
theorem dX7_paste_92 : decode cX7_paste 92 = .ok (.invokevirtual 179, 3) := by decide +kernel
theorem dX7_paste_95 : decode cX7_paste 95 = .ok (.ifCond .eq 16, 3) := by decide +kernel
theorem dX7_paste_98 : decode cX7_paste 98 = .ok (.aload 6, 2) := by decide +kernel
theorem dX7_paste_100 : decode cX7_paste 100 = .ok (.iload_n 3, 1) := by decide +kernel
theorem dX7_paste_101 : decode cX7_paste 101 = .ok (.invokevirtual 179, 3) := by decide +kernel
theorem dX7_paste_104 : decode cX7_paste 104 = .ok (.ifCond .eq 7, 3) := by decide +kernel
theorem dX7_paste_107 : decode cX7_paste 107 = .ok (.iconst 1, 1) := by decide +kernel
theorem dX7_paste_108 : decode cX7_paste 108 = .ok (.goto 4, 3) := by decide +kernel
theorem dX7_paste_111 : decode cX7_paste 111 = .ok (.iconst 0, 1) := by decide +kernel
theorem dX7_paste_112 : decode cX7_paste 112 = .ok (.istore 7, 2) := by decide +kernel
theorem dX7_paste_114 : decode cX7_paste 114 = .ok (.iload 7, 2) := by decide +kernel
theorem dX7_paste_116 : decode cX7_paste 116 = .ok (.ifCond .eq 21, 3) := by decide +kernel
theorem dX7_paste_119 : decode cX7_paste 119 = .ok (.aload 5, 2) := by decide +kernel
theorem dX7_paste_121 : decode cX7_paste 121 = .ok (.getfield 182, 3) := by decide +kernel
theorem dX7_paste_124 : decode cX7_paste 124 = .ok (.iload_n 3, 1) := by decide +kernel
theorem dX7_paste_125 : decode cX7_paste 125 = .ok (.iaload, 1) := by decide +kernel
theorem dX7_paste_126 : decode cX7_paste 126 = .ok (.aload 6, 2) := by decide +kernel
theorem dX7_paste_128 : decode cX7_paste 128 = .ok (.getfield 182, 3) := by decide +kernel
theorem dX7_paste_131 : decode cX7_paste 131 = .ok (.iload_n 3, 1) := by decide +kernel
theorem dX7_paste_132 : decode cX7_paste 132 = .ok (.iaload, 1) := by decide +kernel
theorem dX7_paste_133 : decode cX7_paste 133 = .ok (.isub, 1) := by decide +kernel
theorem dX7_paste_134 : decode cX7_paste 134 = .ok (.goto 4, 3) := by decide +kernel
theorem dX7_paste_137 : decode cX7_paste 137 = .ok (.iconst 0, 1) := by decide +kernel
theorem dX7_paste_138 : decode cX7_paste 138 = .ok (.istore 8, 2) := by decide +kernel
theorem dX7_paste_140 : decode cX7_paste 140 = .ok (.iload 7, 2) := by decide +kernel
theorem dX7_paste_142 : decode cX7_paste 142 = .ok (.ifCond .eq 21, 3) := by decide +kernel
theorem dX7_paste_145 : decode cX7_paste 145 = .ok (.aload 5, 2) := by decide +kernel
theorem dX7_paste_147 : decode cX7_paste 147 = .ok (.getfield 187, 3) := by decide +kernel
theorem dX7_paste_150 : decode cX7_paste 150 = .ok (.iload_n 3, 1) := by decide +kernel
theorem dX7_paste_151 : decode cX7_paste 151 = .ok (.iaload, 1) := by decide +kernel
theorem dX7_paste_152 : decode cX7_paste 152 = .ok (.aload 6, 2) := by decide +kernel
theorem dX7_paste_154 : decode cX7_paste 154 = .ok (.getfield 187, 3) := by decide +kernel
theorem dX7_paste_157 : decode cX7_paste 157 = .ok (.iload_n 3, 1) := by decide +kernel
theorem dX7_paste_158 : decode cX7_paste 158 = .ok (.iaload, 1) := by decide +kernel
theorem dX7_paste_159 : decode cX7_paste 159 = .ok (.isub, 1) := by decide +kernel
theorem dX7_paste_160 : decode cX7_paste 160 = .ok (.goto 4, 3) := by decide +kernel
theorem dX7_paste_163 : decode cX7_paste 163 = .ok (.iconst 0, 1) := by decide +kernel
theorem dX7_paste_164 : decode cX7_paste 164 = .ok (.istore 9, 2) := by decide +kernel
theorem dX7_paste_166 : decode cX7_paste 166 = .ok (.aload 6, 2) := by decide +kernel
theorem dX7_paste_168 : decode cX7_paste 168 = .ok (.iload_n 3, 1) := by decide +kernel
theorem dX7_paste_169 : decode cX7_paste 169 = .ok (.iload 4, 2) := by decide +kernel
theorem dX7_paste_171 : decode cX7_paste 171 = .ok (.iload 8, 2) := by decide +kernel
theorem dX7_paste_173 : decode cX7_paste 173 = .ok (.iload 9, 2) := by decide +kernel
theorem dX7_paste_175 : decode cX7_paste 175 = .ok (.invokevirtual 202, 3) := by decide +kernel
theorem dX7_paste_178 : decode cX7_paste 178 = .ok (.ifCond .ne 13, 3) := by decide +kernel
theorem dX7_paste_181 : decode cX7_paste 181 = .ok (.new 87, 3) := by decide +kernel
theorem dX7_paste_184 : decode cX7_paste 184 = .ok (.dup, 1) := by decide +kernel
theorem dX7_paste_185 : decode cX7_paste 185 = .ok (.ldc 205, 2) := by decide +kernel
theorem dX7_paste_187 : decode cX7_paste 187 = .ok (.invokespecial 91, 3) := by decide +kernel
theorem dX7_paste_190 : decode cX7_paste 190 = .ok (.athrow, 1) := by decide +kernel
theorem dX7_paste_191 : decode cX7_paste 191 = .ok (.iload_n 3, 1) := by decide +kernel
theorem dX7_paste_192 : decode cX7_paste 192 = .ok (.istore 10, 2) := by decide +kernel
theorem dX7_paste_194 : decode cX7_paste 194 = .ok (.iload 10, 2) := by decide +kernel
theorem dX7_paste_196 : decode cX7_paste 196 = .ok (.iload 4, 2) := by decide +kernel
theorem dX7_paste_198 : decode cX7_paste 198 = .ok (.if_icmp .gt 75, 3) := by decide +kernel
theorem dX7_paste_201 : decode cX7_paste 201 = .ok (.aload 5, 2) := by decide +kernel
theorem dX7_paste_203 : decode cX7_paste 203 = .ok (.getfield 143, 3) := by decide +kernel
theorem dX7_paste_206 : decode cX7_paste 206 = .ok (.iload 10, 2) := by decide +kernel
theorem dX7_paste_208 : decode cX7_paste 208 = .ok (.aload 6, 2) := by decide +kernel
theorem dX7_paste_210 : decode cX7_paste 210 = .ok (.getfield 143, 3) := by decide +kernel
theorem dX7_paste_213 : decode cX7_paste 213 = .ok (.iload 10, 2) := by decide +kernel
theorem dX7_paste_215 : decode cX7_paste 215 = .ok (.iaload, 1) := by decide +kernel
theorem dX7_paste_216 : decode cX7_paste 216 = .ok (.iastore, 1) := by decide +kernel
theorem dX7_paste_217 : decode cX7_paste 217 = .ok (.aload 6, 2) := by decide +kernel
theorem dX7_paste_219 : decode cX7_paste 219 = .ok (.iload 10, 2) := by decide +kernel
theorem dX7_paste_221 : decode cX7_paste 221 = .ok (.invokevirtual 179, 3) := by decide +kernel
theorem dX7_paste_224 : decode cX7_paste 224 = .ok (.ifCond .eq 36, 3) := by decide +kernel
theorem dX7_paste_227 : decode cX7_paste 227 = .ok (.aload 5, 2) := by decide +kernel
theorem dX7_paste_229 : decode cX7_paste 229 = .ok (.iload 10, 2) := by decide +kernel
theorem dX7_paste_231 : decode cX7_paste 231 = .ok (.aload 6, 2) := by decide +kernel
theorem dX7_paste_233 : decode cX7_paste 233 = .ok (.getfield 182, 3) := by decide +kernel
theorem dX7_paste_236 : decode cX7_paste 236 = .ok (.iload 10, 2) := by decide +kernel
theorem dX7_paste_238 : decode cX7_paste 238 = .ok (.iaload, 1) := by decide +kernel
theorem dX7_paste_239 : decode cX7_paste 239 = .ok (.iload 8, 2) := by decide +kernel
theorem dX7_paste_241 : decode cX7_paste 241 = .ok (.iadd, 1) := by decide +kernel
theorem dX7_paste_242 : decode cX7_paste 242 = .ok (.aload 6, 2) := by decide +kernel
theorem dX7_paste_244 : decode cX7_paste 244 = .ok (.getfield 187, 3) := by decide +kernel
theorem dX7_paste_247 : decode cX7_paste 247 = .ok (.iload 10, 2) := by decide +kernel
theorem dX7_paste_249 : decode cX7_paste 249 = .ok (.iaload, 1) := by decide +kernel
theorem dX7_paste_250 : decode cX7_paste 250 = .ok (.iload 9, 2) := by decide +kernel
theorem dX7_paste_252 : decode cX7_paste 252 = .ok (.iadd, 1) := by decide +kernel
theorem dX7_paste_253 : decode cX7_paste 253 = .ok (.iload_n 2, 1) := by decide +kernel
theorem dX7_paste_254 : decode cX7_paste 254 = .ok (.invokevirtual 147, 3) := by decide +kernel
theorem dX7_paste_257 : decode cX7_paste 257 = .ok (.goto 10, 3) := by decide +kernel
theorem dX7_paste_260 : decode cX7_paste 260 = .ok (.aload 5, 2) := by decide +kernel
theorem dX7_paste_262 : decode cX7_paste 262 = .ok (.iload 10, 2) := by decide +kernel
theorem dX7_paste_264 : decode cX7_paste 264 = .ok (.invokevirtual 140, 3) := by decide +kernel
theorem dX7_paste_267 : decode cX7_paste 267 = .ok (.iinc 10 1, 3) := by decide +kernel
theorem dX7_paste_270 : decode cX7_paste 270 = .ok (.goto (-76), 3) := by decide +kernel
theorem dX7_paste_273 : decode cX7_paste 273 = .ok (.aload 5, 2) := by decide +kernel
theorem dX7_paste_275 : decode cX7_paste 275 = .ok (.iload_n 3, 1) := by decide +kernel
theorem dX7_paste_276 : decode cX7_paste 276 = .ok (.iload 4, 2) := by decide +kernel
theorem dX7_paste_278 : decode cX7_paste 278 = .ok (.invokevirtual 207, 3) := by decide +kernel
theorem dX7_paste_281 : decode cX7_paste 281 = .ok (.ireturn, 1) := by decide +kernel
theorem dX7_island_0 : decode cX7_island 0 = .ok (.aload_n 0, 1) := by decide +kernel
theorem dX7_island_1 : decode cX7_island 1 = .ok (.iload_n 1, 1) := by decide +kernel
theorem dX7_island_2 : decode cX7_island 2 = .ok (.invokevirtual 169, 3) := by decide +kernel
theorem dX7_island_5 : decode cX7_island 5 = .ok (.astore 4, 2) := by decide +kernel
theorem dX7_island_7 : decode cX7_island 7 = .ok (.iload_n 2, 1) := by decide +kernel
theorem dX7_island_8 : decode cX7_island 8 = .ok (.sipush 999, 3) := by decide +kernel
theorem dX7_island_11 : decode cX7_island 11 = .ok (.invokestatic 66, 3) := by decide +kernel
theorem dX7_island_14 : decode cX7_island 14 = .ok (.ifCond .eq 13, 3) := by decide +kernel
theorem dX7_island_17 : decode cX7_island 17 = .ok (.iload_n 3, 1) := by decide +kernel
theorem dX7_island_18 : decode cX7_island 18 = .ok (.sipush 999, 3) := by decide +kernel
theorem dX7_island_21 : decode cX7_island 21 = .ok (.invokestatic 66, 3) := by decide +kernel
theorem dX7_island_24 : decode cX7_island 24 = .ok (.ifCond .ne 13, 3) := by decide +kernel
theorem dX7_island_27 : decode cX7_island 27 = .ok (.new 77, 3) := by decide +kernel
theorem dX7_island_30 : decode cX7_island 30 = .ok (.dup, 1) := by decide +kernel
theorem dX7_island_31 : decode cX7_island 31 = .ok (.ldc 211, 2) := by decide +kernel
theorem dX7_island_33 : decode cX7_island 33 = .ok (.invokespecial 81, 3) := by decide +kernel
theorem dX7_island_36 : decode cX7_island 36 = .ok (.athrow, 1) := by decide +kernel
theorem dX7_island_37 : decode cX7_island 37 = .ok (.aload_n 0, 1) := by decide +kernel
theorem dX7_island_38 : decode cX7_island 38 = .ok (.getfield 52, 3) := by decide +kernel
theorem dX7_island_41 : decode cX7_island 41 = .ok (.getfield 213, 3) := by decide +kernel
theorem dX7_island_44 : decode cX7_island 44 = .ok (.bipush 20, 2) := by decide +kernel
theorem dX7_island_46 : decode cX7_island 46 = .ok (.if_icmp .lt 13, 3) := by decide +kernel
theorem dX7_island_49 : decode cX7_island 49 = .ok (.new 87, 3) := by decide +kernel
theorem dX7_island_52 : decode cX7_island 52 = .ok (.dup, 1) := by decide +kernel
theorem dX7_island_53 : decode cX7_island 53 = .ok (.ldc 214, 2) := by decide +kernel
theorem dX7_island_55 : decode cX7_island 55 = .ok (.invokespecial 91, 3) := by decide +kernel
theorem dX7_island_58 : decode cX7_island 58 = .ok (.athrow, 1) := by decide +kernel
theorem dX7_island_59 : decode cX7_island 59 = .ok (.aload_n 0, 1) := by decide +kernel
theorem dX7_island_60 : decode cX7_island 60 = .ok (.getfield 52, 3) := by decide +kernel
theorem dX7_island_63 : decode cX7_island 63 = .ok (.getfield 213, 3) := by decide +kernel
theorem dX7_island_66 : decode cX7_island 66 = .ok (.istore 5, 2) := by decide +kernel
theorem dX7_island_68 : decode cX7_island 68 = .ok (.aload_n 0, 1) := by decide +kernel
theorem dX7_island_69 : decode cX7_island 69 = .ok (.getfield 52, 3) := by decide +kernel
theorem dX7_island_72 : decode cX7_island 72 = .ok (.getfield 216, 3) := by decide +kernel
theorem dX7_island_75 : decode cX7_island 75 = .ok (.iload 5, 2) := by decide +kernel
theorem dX7_island_77 : decode cX7_island 77 = .ok (.iload_n 2, 1) := by decide +kernel
theorem dX7_island_78 : decode cX7_island 78 = .ok (.iastore, 1) := by decide +kernel
theorem dX7_island_79 : decode cX7_island 79 = .ok (.aload_n 0, 1) := by decide +kernel
theorem dX7_island_80 : decode cX7_island 80 = .ok (.getfield 52, 3) := by decide +kernel
theorem dX7_island_83 : decode cX7_island 83 = .ok (.getfield 217, 3) := by decide +kernel
theorem dX7_island_86 : decode cX7_island 86 = .ok (.iload 5, 2) := by decide +kernel
theorem dX7_island_88 : decode cX7_island 88 = .ok (.iload_n 3, 1) := by decide +kernel
theorem dX7_island_89 : decode cX7_island 89 = .ok (.iastore, 1) := by decide +kernel
theorem dX7_island_90 : decode cX7_island 90 = .ok (.aload_n 0, 1) := by decide +kernel
theorem dX7_island_91 : decode cX7_island 91 = .ok (.getfield 52, 3) := by decide +kernel
theorem dX7_island_94 : decode cX7_island 94 = .ok (.getfield 218, 3) := by decide +kernel
theorem dX7_island_97 : decode cX7_island 97 = .ok (.iload 5, 2) := by decide +kernel
theorem dX7_island_99 : decode cX7_island 99 = .ok (.iload_n 1, 1) := by decide +kernel
theorem dX7_island_100 : decode cX7_island 100 = .ok (.iastore, 1) := by decide +kernel
theorem dX7_island_101 : decode cX7_island 101 = .ok (.aload_n 0, 1) := by decide +kernel
theorem dX7_island_102 : decode cX7_island 102 = .ok (.getfield 52, 3) := by decide +kernel
theorem dX7_island_105 : decode cX7_island 105 = .ok (.iload 5, 2) := by decide +kernel
theorem dX7_island_107 : decode cX7_island 107 = .ok (.iconst 1, 1) := by decide +kernel
theorem dX7_island_108 : decode cX7_island 108 = .ok (.iadd, 1) := by decide +kernel
theorem dX7_island_109 : decode cX7_island 109 = .ok (.putfield 213, 3) := by decide +kernel
theorem dX7_island_112 : decode cX7_island 112 = .ok (.aload 4, 2) := by decide +kernel
theorem dX7_island_114 : decode cX7_island 114 = .ok (.getfield 221, 3) := by decide +kernel
theorem dX7_island_117 : decode cX7_island 117 = .ok (.iload 5, 2) := by decide +kernel
theorem dX7_island_119 : decode cX7_island 119 = .ok (.iconst 1, 1) := by decide +kernel
theorem dX7_island_120 : decode cX7_island 120 = .ok (.bastore, 1) := by decide +kernel
theorem dX7_island_121 : decode cX7_island 121 = .ok (.iload 5, 2) := by decide +kernel
theorem dX7_island_123 : decode cX7_island 123 = .ok (.ireturn, 1) := by decide +kernel
theorem dX7_exchange_0 : decode cX7_exchange 0 = .ok (.aload_n 0, 1) := by decide +kernel
theorem dX7_exchange_1 : decode cX7_exchange 1 = .ok (.iload_n 1, 1) := by decide +kernel
theorem dX7_exchange_2 : decode cX7_exchange 2 = .ok (.invokevirtual 169, 3) := by decide +kernel
theorem dX7_exchange_5 : decode cX7_exchange 5 = .ok (.astore 4, 2) := by decide +kernel
theorem dX7_exchange_7 : decode cX7_exchange 7 = .ok (.iload_n 2, 1) := by decide +kernel
theorem dX7_exchange_8 : decode cX7_exchange 8 = .ok (.invokestatic 62, 3) := by decide +kernel
theorem dX7_exchange_11 : decode cX7_exchange 11 = .ok (.iload_n 3, 1) := by decide +kernel
theorem dX7_exchange_12 : decode cX7_exchange 12 = .ok (.invokestatic 62, 3) := by decide +kernel
theorem dX7_exchange_15 : decode cX7_exchange 15 = .ok (.aload 4, 2) := by decide +kernel
theorem dX7_exchange_17 : decode cX7_exchange 17 = .ok (.getfield 143, 3) := by decide +kernel
theorem dX7_exchange_20 : decode cX7_exchange 20 = .ok (.iload_n 2, 1) := by decide +kernel
theorem dX7_exchange_21 : decode cX7_exchange 21 = .ok (.iaload, 1) := by decide +kernel
theorem dX7_exchange_22 : decode cX7_exchange 22 = .ok (.istore 5, 2) := by decide +kernel
theorem dX7_exchange_24 : decode cX7_exchange 24 = .ok (.aload 4, 2) := by decide +kernel
theorem dX7_exchange_26 : decode cX7_exchange 26 = .ok (.getfield 143, 3) := by decide +kernel
theorem dX7_exchange_29 : decode cX7_exchange 29 = .ok (.iload_n 2, 1) := by decide +kernel
theorem dX7_exchange_30 : decode cX7_exchange 30 = .ok (.aload 4, 2) := by decide +kernel
theorem dX7_exchange_32 : decode cX7_exchange 32 = .ok (.getfield 143, 3) := by decide +kernel
theorem dX7_exchange_35 : decode cX7_exchange 35 = .ok (.iload_n 3, 1) := by decide +kernel
theorem dX7_exchange_36 : decode cX7_exchange 36 = .ok (.iaload, 1) := by decide +kernel
theorem dX7_exchange_37 : decode cX7_exchange 37 = .ok (.iastore, 1) := by decide +kernel
theorem dX7_exchange_38 : decode cX7_exchange 38 = .ok (.aload 4, 2) := by decide +kernel
theorem dX7_exchange_40 : decode cX7_exchange 40 = .ok (.getfield 143, 3) := by decide +kernel
theorem dX7_exchange_43 : decode cX7_exchange 43 = .ok (.iload_n 3, 1) := by decide +kernel
theorem dX7_exchange_44 : decode cX7_exchange 44 = .ok (.iload 5, 2) := by decide +kernel
theorem dX7_exchange_46 : decode cX7_exchange 46 = .ok (.iastore, 1) := by decide +kernel
theorem dX7_exchange_47 : decode cX7_exchange 47 = .ok (.return_, 1) := by decide +kernel
theorem dX7_shrink_0 : decode cX7_shrink 0 = .ok (.aload_n 0, 1) := by decide +kernel
theorem dX7_shrink_1 : decode cX7_shrink 1 = .ok (.iload_n 1, 1) := by decide +kernel
theorem dX7_shrink_2 : decode cX7_shrink 2 = .ok (.invokevirtual 169, 3) := by decide +kernel
theorem dX7_shrink_5 : decode cX7_shrink 5 = .ok (.astore 5, 2) := by decide +kernel
theorem dX7_shrink_7 : decode cX7_shrink 7 = .ok (.iload_n 2, 1) := by decide +kernel
theorem dX7_shrink_8 : decode cX7_shrink 8 = .ok (.invokestatic 225, 3) := by decide +kernel
theorem dX7_shrink_11 : decode cX7_shrink 11 = .ok (.iload_n 3, 1) := by decide +kernel
theorem dX7_shrink_12 : decode cX7_shrink 12 = .ok (.bipush 50, 2) := by decide +kernel
theorem dX7_shrink_14 : decode cX7_shrink 14 = .ok (.if_icmp .lt 10, 3) := by decide +kernel
theorem dX7_shrink_17 : decode cX7_shrink 17 = .ok (.iload_n 3, 1) := by decide +kernel
theorem dX7_shrink_18 : decode cX7_shrink 18 = .ok (.sipush 200, 3) := by decide +kernel
theorem dX7_shrink_21 : decode cX7_shrink 21 = .ok (.if_icmp .le 13, 3) := by decide +kernel
theorem dX7_shrink_24 : decode cX7_shrink 24 = .ok (.new 77, 3) := by decide +kernel
theorem dX7_shrink_27 : decode cX7_shrink 27 = .ok (.dup, 1) := by decide +kernel
theorem dX7_shrink_28 : decode cX7_shrink 28 = .ok (.ldc 228, 2) := by decide +kernel
theorem dX7_shrink_30 : decode cX7_shrink 30 = .ok (.invokespecial 81, 3) := by decide +kernel
theorem dX7_shrink_33 : decode cX7_shrink 33 = .ok (.athrow, 1) := by decide +kernel
theorem dX7_shrink_34 : decode cX7_shrink 34 = .ok (.iload 4, 2) := by decide +kernel
theorem dX7_shrink_36 : decode cX7_shrink 36 = .ok (.ifCond .eq 14, 3) := by decide +kernel
theorem dX7_shrink_39 : decode cX7_shrink 39 = .ok (.aload 5, 2) := by decide +kernel
theorem dX7_shrink_41 : decode cX7_shrink 41 = .ok (.getfield 144, 3) := by decide +kernel
theorem dX7_shrink_44 : decode cX7_shrink 44 = .ok (.iload_n 2, 1) := by decide +kernel
theorem dX7_shrink_45 : decode cX7_shrink 45 = .ok (.iload_n 3, 1) := by decide +kernel
theorem dX7_shrink_46 : decode cX7_shrink 46 = .ok (.iastore, 1) := by decide +kernel
theorem dX7_shrink_47 : decode cX7_shrink 47 = .ok (.goto 33, 3) := by decide +kernel
theorem dX7_shrink_50 : decode cX7_shrink 50 = .ok (.aload 5, 2) := by decide +kernel
theorem dX7_shrink_52 : decode cX7_shrink 52 = .ok (.iload_n 2, 1) := by decide +kernel
theorem dX7_shrink_53 : decode cX7_shrink 53 = .ok (.iload_n 3, 1) := by decide +kernel
theorem dX7_shrink_54 : decode cX7_shrink 54 = .ok (.invokevirtual 230, 3) := by decide +kernel
theorem dX7_shrink_57 : decode cX7_shrink 57 = .ok (.ifCond .eq 13, 3) := by decide +kernel
theorem dX7_shrink_60 : decode cX7_shrink 60 = .ok (.aload 5, 2) := by decide +kernel
theorem dX7_shrink_62 : decode cX7_shrink 62 = .ok (.iload_n 2, 1) := by decide +kernel
theorem dX7_shrink_63 : decode cX7_shrink 63 = .ok (.iload_n 3, 1) := by decide +kernel
theorem dX7_shrink_64 : decode cX7_shrink 64 = .ok (.invokevirtual 233, 3) := by decide +kernel
theorem dX7_shrink_67 : decode cX7_shrink 67 = .ok (.goto 13, 3) := by decide +kernel
theorem dX7_shrink_70 : decode cX7_shrink 70 = .ok (.new 87, 3) := by decide +kernel
theorem dX7_shrink_73 : decode cX7_shrink 73 = .ok (.dup, 1) := by decide +kernel
theorem dX7_shrink_74 : decode cX7_shrink 74 = .ok (.ldc 205, 2) := by decide +kernel
theorem dX7_shrink_76 : decode cX7_shrink 76 = .ok (.invokespecial 91, 3) := by decide +kernel
theorem dX7_shrink_79 : decode cX7_shrink 79 = .ok (.athrow, 1) := by decide +kernel
theorem dX7_shrink_80 : decode cX7_shrink 80 = .ok (.aload 5, 2) := by decide +kernel
theorem dX7_shrink_82 : decode cX7_shrink 82 = .ok (.getfield 144, 3) := by decide +kernel
theorem dX7_shrink_85 : decode cX7_shrink 85 = .ok (.iload_n 2, 1) := by decide +kernel
theorem dX7_shrink_86 : decode cX7_shrink 86 = .ok (.iaload, 1) := by decide +kernel
theorem dX7_shrink_87 : decode cX7_shrink 87 = .ok (.ireturn, 1) := by decide +kernel
theorem dX7_lose_0 : decode cX7_lose 0 = .ok (.aload_n 0, 1) := by decide +kernel
theorem dX7_lose_1 : decode cX7_lose 1 = .ok (.iload_n 1, 1) := by decide +kernel
theorem dX7_lose_2 : decode cX7_lose 2 = .ok (.invokevirtual 169, 3) := by decide +kernel
theorem dX7_lose_5 : decode cX7_lose 5 = .ok (.astore 4, 2) := by decide +kernel
theorem dX7_lose_7 : decode cX7_lose 7 = .ok (.iload_n 2, 1) := by decide +kernel
theorem dX7_lose_8 : decode cX7_lose 8 = .ok (.invokestatic 62, 3) := by decide +kernel
theorem dX7_lose_11 : decode cX7_lose 11 = .ok (.iload_n 3, 1) := by decide +kernel
theorem dX7_lose_12 : decode cX7_lose 12 = .ok (.invokestatic 62, 3) := by decide +kernel
theorem dX7_lose_15 : decode cX7_lose 15 = .ok (.iload_n 3, 1) := by decide +kernel
theorem dX7_lose_16 : decode cX7_lose 16 = .ok (.iload_n 2, 1) := by decide +kernel
theorem dX7_lose_17 : decode cX7_lose 17 = .ok (.if_icmp .ge 13, 3) := by decide +kernel
theorem dX7_lose_20 : decode cX7_lose 20 = .ok (.new 77, 3) := by decide +kernel
theorem dX7_lose_23 : decode cX7_lose 23 = .ok (.dup, 1) := by decide +kernel
theorem dX7_lose_24 : decode cX7_lose 24 = .ok (.ldc 237, 2) := by decide +kernel
theorem dX7_lose_26 : decode cX7_lose 26 = .ok (.invokespecial 81, 3) := by decide +kernel
theorem dX7_lose_29 : decode cX7_lose 29 = .ok (.athrow, 1) := by decide +kernel
theorem dX7_lose_30 : decode cX7_lose 30 = .ok (.aload 4, 2) := by decide +kernel
theorem dX7_lose_32 : decode cX7_lose 32 = .ok (.iload_n 2, 1) := by decide +kernel
theorem dX7_lose_33 : decode cX7_lose 33 = .ok (.iload_n 3, 1) := by decide +kernel
theorem dX7_lose_34 : decode cX7_lose 34 = .ok (.invokevirtual 207, 3) := by decide +kernel
theorem dX7_lose_37 : decode cX7_lose 37 = .ok (.istore 5, 2) := by decide +kernel
theorem dX7_lose_39 : decode cX7_lose 39 = .ok (.iload_n 2, 1) := by decide +kernel
theorem dX7_lose_40 : decode cX7_lose 40 = .ok (.istore 6, 2) := by decide +kernel
theorem dX7_lose_42 : decode cX7_lose 42 = .ok (.iload 6, 2) := by decide +kernel
theorem dX7_lose_44 : decode cX7_lose 44 = .ok (.iload_n 3, 1) := by decide +kernel
theorem dX7_lose_45 : decode cX7_lose 45 = .ok (.if_icmp .gt 16, 3) := by decide +kernel
theorem dX7_lose_48 : decode cX7_lose 48 = .ok (.aload 4, 2) := by decide +kernel
theorem dX7_lose_50 : decode cX7_lose 50 = .ok (.iload 6, 2) := by decide +kernel
theorem dX7_lose_52 : decode cX7_lose 52 = .ok (.invokevirtual 140, 3) := by decide +kernel
theorem dX7_lose_55 : decode cX7_lose 55 = .ok (.iinc 6 1, 3) := by decide +kernel
theorem dX7_lose_58 : decode cX7_lose 58 = .ok (.goto (-16), 3) := by decide +kernel
theorem dX7_lose_61 : decode cX7_lose 61 = .ok (.iload 5, 2) := by decide +kernel
theorem dX7_lose_63 : decode cX7_lose 63 = .ok (.ireturn, 1) := by decide +kernel
theorem dX7_paint_0 : decode cX7_paint 0 = .ok (.aload_n 0, 1) := by decide +kernel
theorem dX7_paint_1 : decode cX7_paint 1 = .ok (.iload_n 1, 1) := by decide +kernel
theorem dX7_paint_2 : decode cX7_paint 2 = .ok (.invokevirtual 169, 3) := by decide +kernel
theorem dX7_paint_5 : decode cX7_paint 5 = .ok (.astore_n 3, 1) := by decide +kernel
theorem dX7_paint_6 : decode cX7_paint 6 = .ok (.aload_n 0, 1) := by decide +kernel
theorem dX7_paint_7 : decode cX7_paint 7 = .ok (.iload_n 2, 1) := by decide +kernel
theorem dX7_paint_8 : decode cX7_paint 8 = .ok (.invokevirtual 239, 3) := by decide +kernel
theorem dX7_paint_11 : decode cX7_paint 11 = .ok (.aload_n 3, 1) := by decide +kernel
theorem dX7_paint_12 : decode cX7_paint 12 = .ok (.getfield 221, 3) := by decide +kernel
theorem dX7_paint_15 : decode cX7_paint 15 = .ok (.iload_n 2, 1) := by decide +kernel
theorem dX7_paint_16 : decode cX7_paint 16 = .ok (.baload, 1) := by decide +kernel
theorem dX7_paint_17 : decode cX7_paint 17 = .ok (.istore 4, 2) := by decide +kernel
theorem dX7_paint_19 : decode cX7_paint 19 = .ok (.aload_n 3, 1) := by decide +kernel
theorem dX7_paint_20 : decode cX7_paint 20 = .ok (.getfield 221, 3) := by decide +kernel
theorem dX7_paint_23 : decode cX7_paint 23 = .ok (.iload_n 2, 1) := by decide +kernel
theorem dX7_paint_24 : decode cX7_paint 24 = .ok (.iconst 0, 1) := by decide +kernel
theorem dX7_paint_25 : decode cX7_paint 25 = .ok (.bastore, 1) := by decide +kernel
theorem dX7_paint_26 : decode cX7_paint 26 = .ok (.iload 4, 2) := by decide +kernel
theorem dX7_paint_28 : decode cX7_paint 28 = .ok (.ireturn, 1) := by decide +kernel
theorem dX7_told_0 : decode cX7_told 0 = .ok (.iload_n 1, 1) := by decide +kernel
theorem dX7_told_1 : decode cX7_told 1 = .ok (.ifCond .lt 14, 3) := by decide +kernel
theorem dX7_told_4 : decode cX7_told 4 = .ok (.iload_n 1, 1) := by decide +kernel
theorem dX7_told_5 : decode cX7_told 5 = .ok (.aload_n 0, 1) := by decide +kernel
theorem dX7_told_6 : decode cX7_told 6 = .ok (.getfield 26, 3) := by decide +kernel
theorem dX7_told_9 : decode cX7_told 9 = .ok (.getfield 84, 3) := by decide +kernel
theorem dX7_told_12 : decode cX7_told 12 = .ok (.if_icmp .lt 13, 3) := by decide +kernel
theorem dX7_told_15 : decode cX7_told 15 = .ok (.new 116, 3) := by decide +kernel
theorem dX7_told_18 : decode cX7_told 18 = .ok (.dup, 1) := by decide +kernel
theorem dX7_told_19 : decode cX7_told 19 = .ok (.ldc 242, 2) := by decide +kernel
theorem dX7_told_21 : decode cX7_told 21 = .ok (.invokespecial 120, 3) := by decide +kernel
theorem dX7_told_24 : decode cX7_told 24 = .ok (.athrow, 1) := by decide +kernel
theorem dX7_told_25 : decode cX7_told 25 = .ok (.iload_n 2, 1) := by decide +kernel
theorem dX7_told_26 : decode cX7_told 26 = .ok (.ifCond .eq 15, 3) := by decide +kernel
theorem dX7_told_29 : decode cX7_told 29 = .ok (.aload_n 0, 1) := by decide +kernel
theorem dX7_told_30 : decode cX7_told 30 = .ok (.getfield 26, 3) := by decide +kernel
theorem dX7_told_33 : decode cX7_told 33 = .ok (.getfield 131, 3) := by decide +kernel
theorem dX7_told_36 : decode cX7_told 36 = .ok (.iload_n 1, 1) := by decide +kernel
theorem dX7_told_37 : decode cX7_told 37 = .ok (.iaload, 1) := by decide +kernel
theorem dX7_told_38 : decode cX7_told 38 = .ok (.goto 12, 3) := by decide +kernel
theorem dX7_told_41 : decode cX7_told 41 = .ok (.aload_n 0, 1) := by decide +kernel
theorem dX7_told_42 : decode cX7_told 42 = .ok (.getfield 26, 3) := by decide +kernel
theorem dX7_told_45 : decode cX7_told 45 = .ok (.getfield 132, 3) := by decide +kernel
theorem dX7_told_48 : decode cX7_told 48 = .ok (.iload_n 1, 1) := by decide +kernel
theorem dX7_told_49 : decode cX7_told 49 = .ok (.iaload, 1) := by decide +kernel
theorem dX7_told_50 : decode cX7_told 50 = .ok (.ireturn, 1) := by decide +kernel
theorem dX7_at_0 : decode cX7_at 0 = .ok (.aload_n 0, 1) := by decide +kernel
theorem dX7_at_1 : decode cX7_at 1 = .ok (.iload_n 1, 1) := by decide +kernel
theorem dX7_at_2 : decode cX7_at 2 = .ok (.invokevirtual 169, 3) := by decide +kernel
theorem dX7_at_5 : decode cX7_at 5 = .ok (.astore 4, 2) := by decide +kernel
theorem dX7_at_7 : decode cX7_at 7 = .ok (.iload_n 2, 1) := by decide +kernel
theorem dX7_at_8 : decode cX7_at 8 = .ok (.invokestatic 62, 3) := by decide +kernel
theorem dX7_at_11 : decode cX7_at 11 = .ok (.iload_n 3, 1) := by decide +kernel
theorem dX7_at_12 : decode cX7_at 12 = .ok (.tableswitch 118 0 5 #[40, 48, 56, 64, 72, 95], 40) := by decide +kernel
theorem dX7_at_52 : decode cX7_at 52 = .ok (.aload 4, 2) := by decide +kernel
theorem dX7_at_54 : decode cX7_at 54 = .ok (.getfield 182, 3) := by decide +kernel
theorem dX7_at_57 : decode cX7_at 57 = .ok (.iload_n 2, 1) := by decide +kernel
theorem dX7_at_58 : decode cX7_at 58 = .ok (.iaload, 1) := by decide +kernel
theorem dX7_at_59 : decode cX7_at 59 = .ok (.ireturn, 1) := by decide +kernel
theorem dX7_at_60 : decode cX7_at 60 = .ok (.aload 4, 2) := by decide +kernel
theorem dX7_at_62 : decode cX7_at 62 = .ok (.getfield 187, 3) := by decide +kernel
theorem dX7_at_65 : decode cX7_at 65 = .ok (.iload_n 2, 1) := by decide +kernel
theorem dX7_at_66 : decode cX7_at 66 = .ok (.iaload, 1) := by decide +kernel
theorem dX7_at_67 : decode cX7_at 67 = .ok (.ireturn, 1) := by decide +kernel
theorem dX7_at_68 : decode cX7_at 68 = .ok (.aload 4, 2) := by decide +kernel
theorem dX7_at_70 : decode cX7_at 70 = .ok (.getfield 143, 3) := by decide +kernel
theorem dX7_at_73 : decode cX7_at 73 = .ok (.iload_n 2, 1) := by decide +kernel
theorem dX7_at_74 : decode cX7_at 74 = .ok (.iaload, 1) := by decide +kernel
theorem dX7_at_75 : decode cX7_at 75 = .ok (.ireturn, 1) := by decide +kernel
theorem dX7_at_76 : decode cX7_at 76 = .ok (.aload 4, 2) := by decide +kernel
theorem dX7_at_78 : decode cX7_at 78 = .ok (.getfield 244, 3) := by decide +kernel
theorem dX7_at_81 : decode cX7_at 81 = .ok (.iload_n 2, 1) := by decide +kernel
theorem dX7_at_82 : decode cX7_at 82 = .ok (.iaload, 1) := by decide +kernel
theorem dX7_at_83 : decode cX7_at 83 = .ok (.ireturn, 1) := by decide +kernel
theorem dX7_at_84 : decode cX7_at 84 = .ok (.aload 4, 2) := by decide +kernel
theorem dX7_at_86 : decode cX7_at 86 = .ok (.iload_n 2, 1) := by decide +kernel
theorem dX7_at_87 : decode cX7_at 87 = .ok (.invokevirtual 179, 3) := by decide +kernel
theorem dX7_at_90 : decode cX7_at 90 = .ok (.ifCond .eq 14, 3) := by decide +kernel
theorem dX7_at_93 : decode cX7_at 93 = .ok (.aload_n 0, 1) := by decide +kernel
theorem dX7_at_94 : decode cX7_at 94 = .ok (.aload 4, 2) := by decide +kernel
theorem dX7_at_96 : decode cX7_at 96 = .ok (.iload_n 2, 1) := by decide +kernel
theorem dX7_at_97 : decode cX7_at 97 = .ok (.iconst 1, 1) := by decide +kernel
theorem dX7_at_98 : decode cX7_at 98 = .ok (.invokevirtual 247, 3) := by decide +kernel
theorem dX7_at_101 : decode cX7_at 101 = .ok (.goto 5, 3) := by decide +kernel
theorem dX7_at_104 : decode cX7_at 104 = .ok (.ldc 251, 2) := by decide +kernel
theorem dX7_at_106 : decode cX7_at 106 = .ok (.ireturn, 1) := by decide +kernel
theorem dX7_at_107 : decode cX7_at 107 = .ok (.aload 4, 2) := by decide +kernel
theorem dX7_at_109 : decode cX7_at 109 = .ok (.iload_n 2, 1) := by decide +kernel
theorem dX7_at_110 : decode cX7_at 110 = .ok (.invokevirtual 179, 3) := by decide +kernel
theorem dX7_at_113 : decode cX7_at 113 = .ok (.ifCond .eq 14, 3) := by decide +kernel
theorem dX7_at_116 : decode cX7_at 116 = .ok (.aload_n 0, 1) := by decide +kernel
theorem dX7_at_117 : decode cX7_at 117 = .ok (.aload 4, 2) := by decide +kernel
theorem dX7_at_119 : decode cX7_at 119 = .ok (.iload_n 2, 1) := by decide +kernel
theorem dX7_at_120 : decode cX7_at 120 = .ok (.iconst 0, 1) := by decide +kernel
theorem dX7_at_121 : decode cX7_at 121 = .ok (.invokevirtual 247, 3) := by decide +kernel
theorem dX7_at_124 : decode cX7_at 124 = .ok (.goto 5, 3) := by decide +kernel
theorem dX7_at_127 : decode cX7_at 127 = .ok (.ldc 251, 2) := by decide +kernel
theorem dX7_at_129 : decode cX7_at 129 = .ok (.ireturn, 1) := by decide +kernel
theorem dX7_at_130 : decode cX7_at 130 = .ok (.new 77, 3) := by decide +kernel
theorem dX7_at_133 : decode cX7_at 133 = .ok (.dup, 1) := by decide +kernel
theorem dX7_at_134 : decode cX7_at 134 = .ok (.ldc 252, 2) := by decide +kernel
theorem dX7_at_136 : decode cX7_at 136 = .ok (.invokespecial 81, 3) := by decide +kernel
theorem dX7_at_139 : decode cX7_at 139 = .ok (.athrow, 1) := by decide +kernel
theorem dX7_chain_0 : decode cX7_chain 0 = .ok (.aload_n 0, 1) := by decide +kernel
theorem dX7_chain_1 : decode cX7_chain 1 = .ok (.iload_n 1, 1) := by decide +kernel
theorem dX7_chain_2 : decode cX7_chain 2 = .ok (.invokevirtual 169, 3) := by decide +kernel
theorem dX7_chain_5 : decode cX7_chain 5 = .ok (.astore 4, 2) := by decide +kernel
theorem dX7_chain_7 : decode cX7_chain 7 = .ok (.iload_n 2, 1) := by decide +kernel
theorem dX7_chain_8 : decode cX7_chain 8 = .ok (.invokestatic 62, 3) := by decide +kernel
theorem dX7_chain_11 : decode cX7_chain 11 = .ok (.iload_n 3, 1) := by decide +kernel
theorem dX7_chain_12 : decode cX7_chain 12 = .ok (.ifCond .ge 13, 3) := by decide +kernel
theorem dX7_chain_15 : decode cX7_chain 15 = .ok (.new 116, 3) := by decide +kernel
theorem dX7_chain_18 : decode cX7_chain 18 = .ok (.dup, 1) := by decide +kernel
theorem dX7_chain_19 : decode cX7_chain 19 = .ok (.ldc 254, 2) := by decide +kernel
theorem dX7_chain_21 : decode cX7_chain 21 = .ok (.invokespecial 120, 3) := by decide +kernel
theorem dX7_chain_24 : decode cX7_chain 24 = .ok (.athrow, 1) := by decide +kernel
theorem dX7_chain_25 : decode cX7_chain 25 = .ok (.iload_n 3, 1) := by decide +kernel
theorem dX7_chain_26 : decode cX7_chain 26 = .ok (.bipush 12, 2) := by decide +kernel
theorem dX7_chain_28 : decode cX7_chain 28 = .ok (.if_icmp .ge 12, 3) := by decide +kernel
theorem dX7_chain_31 : decode cX7_chain 31 = .ok (.aload 4, 2) := by decide +kernel
theorem dX7_chain_33 : decode cX7_chain 33 = .ok (.iload_n 2, 1) := by decide +kernel
theorem dX7_chain_34 : decode cX7_chain 34 = .ok (.invokevirtual 179, 3) := by decide +kernel
theorem dX7_chain_37 : decode cX7_chain 37 = .ok (.ifCond .ne 5, 3) := by decide +kernel
theorem dX7_chain_40 : decode cX7_chain 40 = .ok (.iconst (-1), 1) := by decide +kernel
theorem dX7_chain_41 : decode cX7_chain 41 = .ok (.ireturn, 1) := by decide +kernel
theorem dX7_chain_42 : decode cX7_chain 42 = .ok (.iload_n 1, 1) := by decide +kernel
theorem dX7_chain_43 : decode cX7_chain 43 = .ok (.istore 5, 2) := by decide +kernel
theorem dX7_chain_45 : decode cX7_chain 45 = .ok (.iconst 0, 1) := by decide +kernel
theorem dX7_chain_46 : decode cX7_chain 46 = .ok (.istore 6, 2) := by decide +kernel
theorem dX7_chain_48 : decode cX7_chain 48 = .ok (.iload 6, 2) := by decide +kernel
theorem dX7_chain_50 : decode cX7_chain 50 = .ok (.iload_n 3, 1) := by decide +kernel
theorem dX7_chain_51 : decode cX7_chain 51 = .ok (.if_icmp .ge 18, 3) := by decide +kernel
theorem dX7_chain_54 : decode cX7_chain 54 = .ok (.aload_n 0, 1) := by decide +kernel
theorem dX7_chain_55 : decode cX7_chain 55 = .ok (.iload 5, 2) := by decide +kernel
theorem dX7_chain_57 : decode cX7_chain 57 = .ok (.iload_n 2, 1) := by decide +kernel
theorem dX7_chain_58 : decode cX7_chain 58 = .ok (.invokevirtual 256, 3) := by decide +kernel
theorem dX7_chain_61 : decode cX7_chain 61 = .ok (.istore 5, 2) := by decide +kernel
theorem dX7_chain_63 : decode cX7_chain 63 = .ok (.iinc 6 1, 3) := by decide +kernel
theorem dX7_chain_66 : decode cX7_chain 66 = .ok (.goto (-18), 3) := by decide +kernel
theorem dX7_chain_69 : decode cX7_chain 69 = .ok (.iload 5, 2) := by decide +kernel
theorem dX7_chain_71 : decode cX7_chain 71 = .ok (.ireturn, 1) := by decide +kernel
theorem dX7_of_0 : decode cX7_of 0 = .ok (.aload_n 0, 1) := by decide +kernel
theorem dX7_of_1 : decode cX7_of 1 = .ok (.iload_n 1, 1) := by decide +kernel
theorem dX7_of_2 : decode cX7_of 2 = .ok (.invokevirtual 169, 3) := by decide +kernel
theorem dX7_of_5 : decode cX7_of 5 = .ok (.astore_n 3, 1) := by decide +kernel
theorem dX7_of_6 : decode cX7_of 6 = .ok (.iload_n 2, 1) := by decide +kernel
theorem dX7_of_7 : decode cX7_of 7 = .ok (.tableswitch 74 0 6 #[41, 46, 54, 59, 59, 59, 68], 41) := by decide +kernel
theorem dX7_of_48 : decode cX7_of 48 = .ok (.aload_n 3, 1) := by decide +kernel
theorem dX7_of_49 : decode cX7_of 49 = .ok (.getfield 138, 3) := by decide +kernel
theorem dX7_of_52 : decode cX7_of 52 = .ok (.ireturn, 1) := by decide +kernel
theorem dX7_of_53 : decode cX7_of 53 = .ok (.aload_n 3, 1) := by decide +kernel
theorem dX7_of_54 : decode cX7_of 54 = .ok (.iconst 0, 1) := by decide +kernel
theorem dX7_of_55 : decode cX7_of 55 = .ok (.bipush 23, 2) := by decide +kernel
theorem dX7_of_57 : decode cX7_of 57 = .ok (.invokevirtual 207, 3) := by decide +kernel
theorem dX7_of_60 : decode cX7_of 60 = .ok (.ireturn, 1) := by decide +kernel
theorem dX7_of_61 : decode cX7_of 61 = .ok (.aload_n 3, 1) := by decide +kernel
theorem dX7_of_62 : decode cX7_of 62 = .ok (.invokevirtual 259, 3) := by decide +kernel
theorem dX7_of_65 : decode cX7_of 65 = .ok (.ireturn, 1) := by decide +kernel
theorem dX7_of_66 : decode cX7_of 66 = .ok (.aload_n 3, 1) := by decide +kernel
theorem dX7_of_67 : decode cX7_of 67 = .ok (.getfield 144, 3) := by decide +kernel
theorem dX7_of_70 : decode cX7_of 70 = .ok (.iload_n 2, 1) := by decide +kernel
theorem dX7_of_71 : decode cX7_of 71 = .ok (.iconst 3, 1) := by decide +kernel
theorem dX7_of_72 : decode cX7_of 72 = .ok (.isub, 1) := by decide +kernel
theorem dX7_of_73 : decode cX7_of 73 = .ok (.iaload, 1) := by decide +kernel
theorem dX7_of_74 : decode cX7_of 74 = .ok (.ireturn, 1) := by decide +kernel
theorem dX7_of_75 : decode cX7_of 75 = .ok (.aload_n 0, 1) := by decide +kernel
theorem dX7_of_76 : decode cX7_of 76 = .ok (.aload_n 3, 1) := by decide +kernel
theorem dX7_of_77 : decode cX7_of 77 = .ok (.invokevirtual 263, 3) := by decide +kernel
theorem dX7_of_80 : decode cX7_of 80 = .ok (.ireturn, 1) := by decide +kernel
theorem dX7_of_81 : decode cX7_of 81 = .ok (.new 77, 3) := by decide +kernel
theorem dX7_of_84 : decode cX7_of 84 = .ok (.dup, 1) := by decide +kernel
theorem dX7_of_85 : decode cX7_of 85 = .ok (.ldc 252, 2) := by decide +kernel
theorem dX7_of_87 : decode cX7_of 87 = .ok (.invokespecial 81, 3) := by decide +kernel
theorem dX7_of_90 : decode cX7_of 90 = .ok (.athrow, 1) := by decide +kernel
theorem dX7_ofIsland_0 : decode cX7_ofIsland 0 = .ok (.aload_n 0, 1) := by decide +kernel
theorem dX7_ofIsland_1 : decode cX7_ofIsland 1 = .ok (.iload_n 1, 1) := by decide +kernel
theorem dX7_ofIsland_2 : decode cX7_ofIsland 2 = .ok (.invokevirtual 239, 3) := by decide +kernel
theorem dX7_ofIsland_5 : decode cX7_ofIsland 5 = .ok (.iload_n 2, 1) := by decide +kernel
theorem dX7_ofIsland_6 : decode cX7_ofIsland 6 = .ok (.tableswitch 76 0 4 #[34, 40, 50, 60, 70], 34) := by decide +kernel
theorem dX7_ofIsland_40 : decode cX7_ofIsland 40 = .ok (.aload_n 0, 1) := by decide +kernel
theorem dX7_ofIsland_41 : decode cX7_ofIsland 41 = .ok (.iload_n 1, 1) := by decide +kernel
theorem dX7_ofIsland_42 : decode cX7_ofIsland 42 = .ok (.invokevirtual 267, 3) := by decide +kernel
theorem dX7_ofIsland_45 : decode cX7_ofIsland 45 = .ok (.ireturn, 1) := by decide +kernel
theorem dX7_ofIsland_46 : decode cX7_ofIsland 46 = .ok (.aload_n 0, 1) := by decide +kernel
theorem dX7_ofIsland_47 : decode cX7_ofIsland 47 = .ok (.getfield 52, 3) := by decide +kernel
theorem dX7_ofIsland_50 : decode cX7_ofIsland 50 = .ok (.getfield 216, 3) := by decide +kernel
theorem dX7_ofIsland_53 : decode cX7_ofIsland 53 = .ok (.iload_n 1, 1) := by decide +kernel
theorem dX7_ofIsland_54 : decode cX7_ofIsland 54 = .ok (.iaload, 1) := by decide +kernel
theorem dX7_ofIsland_55 : decode cX7_ofIsland 55 = .ok (.ireturn, 1) := by decide +kernel
theorem dX7_ofIsland_56 : decode cX7_ofIsland 56 = .ok (.aload_n 0, 1) := by decide +kernel
theorem dX7_ofIsland_57 : decode cX7_ofIsland 57 = .ok (.getfield 52, 3) := by decide +kernel
theorem dX7_ofIsland_60 : decode cX7_ofIsland 60 = .ok (.getfield 217, 3) := by decide +kernel
theorem dX7_ofIsland_63 : decode cX7_ofIsland 63 = .ok (.iload_n 1, 1) := by decide +kernel
theorem dX7_ofIsland_64 : decode cX7_ofIsland 64 = .ok (.iaload, 1) := by decide +kernel
theorem dX7_ofIsland_65 : decode cX7_ofIsland 65 = .ok (.ireturn, 1) := by decide +kernel
theorem dX7_ofIsland_66 : decode cX7_ofIsland 66 = .ok (.aload_n 0, 1) := by decide +kernel
theorem dX7_ofIsland_67 : decode cX7_ofIsland 67 = .ok (.getfield 52, 3) := by decide +kernel
theorem dX7_ofIsland_70 : decode cX7_ofIsland 70 = .ok (.getfield 218, 3) := by decide +kernel
theorem dX7_ofIsland_73 : decode cX7_ofIsland 73 = .ok (.iload_n 1, 1) := by decide +kernel
theorem dX7_ofIsland_74 : decode cX7_ofIsland 74 = .ok (.iaload, 1) := by decide +kernel
theorem dX7_ofIsland_75 : decode cX7_ofIsland 75 = .ok (.ireturn, 1) := by decide +kernel
theorem dX7_ofIsland_76 : decode cX7_ofIsland 76 = .ok (.aload_n 0, 1) := by decide +kernel
theorem dX7_ofIsland_77 : decode cX7_ofIsland 77 = .ok (.iload_n 1, 1) := by decide +kernel
theorem dX7_ofIsland_78 : decode cX7_ofIsland 78 = .ok (.invokevirtual 270, 3) := by decide +kernel
theorem dX7_ofIsland_81 : decode cX7_ofIsland 81 = .ok (.ireturn, 1) := by decide +kernel
theorem dX7_ofIsland_82 : decode cX7_ofIsland 82 = .ok (.new 77, 3) := by decide +kernel
theorem dX7_ofIsland_85 : decode cX7_ofIsland 85 = .ok (.dup, 1) := by decide +kernel
theorem dX7_ofIsland_86 : decode cX7_ofIsland 86 = .ok (.ldc 252, 2) := by decide +kernel
theorem dX7_ofIsland_88 : decode cX7_ofIsland 88 = .ok (.invokespecial 81, 3) := by decide +kernel
theorem dX7_ofIsland_91 : decode cX7_ofIsland 91 = .ok (.athrow, 1) := by decide +kernel
theorem dX7_fit_0 : decode cX7_fit 0 = .ok (.aload_n 0, 1) := by decide +kernel
theorem dX7_fit_1 : decode cX7_fit 1 = .ok (.iload_n 1, 1) := by decide +kernel
theorem dX7_fit_2 : decode cX7_fit 2 = .ok (.invokevirtual 169, 3) := by decide +kernel
theorem dX7_fit_5 : decode cX7_fit 5 = .ok (.astore 4, 2) := by decide +kernel
theorem dX7_fit_7 : decode cX7_fit 7 = .ok (.iload_n 2, 1) := by decide +kernel
theorem dX7_fit_8 : decode cX7_fit 8 = .ok (.invokestatic 225, 3) := by decide +kernel
theorem dX7_fit_11 : decode cX7_fit 11 = .ok (.iload_n 3, 1) := by decide +kernel
theorem dX7_fit_12 : decode cX7_fit 12 = .ok (.tableswitch 54 0 2 #[28, 37, 46], 28) := by decide +kernel
theorem dX7_fit_40 : decode cX7_fit 40 = .ok (.aload_n 0, 1) := by decide +kernel
theorem dX7_fit_41 : decode cX7_fit 41 = .ok (.aload 4, 2) := by decide +kernel
theorem dX7_fit_43 : decode cX7_fit 43 = .ok (.iload_n 2, 1) := by decide +kernel
theorem dX7_fit_44 : decode cX7_fit 44 = .ok (.iconst 1, 1) := by decide +kernel
theorem dX7_fit_45 : decode cX7_fit 45 = .ok (.invokevirtual 273, 3) := by decide +kernel
theorem dX7_fit_48 : decode cX7_fit 48 = .ok (.ireturn, 1) := by decide +kernel
theorem dX7_fit_49 : decode cX7_fit 49 = .ok (.aload_n 0, 1) := by decide +kernel
theorem dX7_fit_50 : decode cX7_fit 50 = .ok (.aload 4, 2) := by decide +kernel
theorem dX7_fit_52 : decode cX7_fit 52 = .ok (.iload_n 2, 1) := by decide +kernel
theorem dX7_fit_53 : decode cX7_fit 53 = .ok (.iconst 0, 1) := by decide +kernel
theorem dX7_fit_54 : decode cX7_fit 54 = .ok (.invokevirtual 273, 3) := by decide +kernel
theorem dX7_fit_57 : decode cX7_fit 57 = .ok (.ireturn, 1) := by decide +kernel
theorem dX7_fit_58 : decode cX7_fit 58 = .ok (.aload_n 0, 1) := by decide +kernel
theorem dX7_fit_59 : decode cX7_fit 59 = .ok (.aload 4, 2) := by decide +kernel
theorem dX7_fit_61 : decode cX7_fit 61 = .ok (.iload_n 2, 1) := by decide +kernel
theorem dX7_fit_62 : decode cX7_fit 62 = .ok (.invokevirtual 276, 3) := by decide +kernel
theorem dX7_fit_65 : decode cX7_fit 65 = .ok (.ireturn, 1) := by decide +kernel
theorem dX7_fit_66 : decode cX7_fit 66 = .ok (.new 77, 3) := by decide +kernel
theorem dX7_fit_69 : decode cX7_fit 69 = .ok (.dup, 1) := by decide +kernel
theorem dX7_fit_70 : decode cX7_fit 70 = .ok (.ldc 252, 2) := by decide +kernel
theorem dX7_fit_72 : decode cX7_fit 72 = .ok (.invokespecial 81, 3) := by decide +kernel
theorem dX7_fit_75 : decode cX7_fit 75 = .ok (.athrow, 1) := by decide +kernel
theorem dX7_shared_0 : decode cX7_shared 0 = .ok (.aload_n 0, 1) := by decide +kernel
theorem dX7_shared_1 : decode cX7_shared 1 = .ok (.iload_n 1, 1) := by decide +kernel
theorem dX7_shared_2 : decode cX7_shared 2 = .ok (.invokevirtual 169, 3) := by decide +kernel
theorem dX7_shared_5 : decode cX7_shared 5 = .ok (.astore 4, 2) := by decide +kernel
theorem dX7_shared_7 : decode cX7_shared 7 = .ok (.aload_n 0, 1) := by decide +kernel
theorem dX7_shared_8 : decode cX7_shared 8 = .ok (.iload_n 2, 1) := by decide +kernel
theorem dX7_shared_9 : decode cX7_shared 9 = .ok (.invokevirtual 169, 3) := by decide +kernel
theorem dX7_shared_12 : decode cX7_shared 12 = .ok (.astore 5, 2) := by decide +kernel
theorem dX7_shared_14 : decode cX7_shared 14 = .ok (.iload_n 3, 1) := by decide +kernel
theorem dX7_shared_15 : decode cX7_shared 15 = .ok (.invokestatic 225, 3) := by decide +kernel
theorem dX7_shared_18 : decode cX7_shared 18 = .ok (.aload_n 0, 1) := by decide +kernel
theorem dX7_shared_19 : decode cX7_shared 19 = .ok (.aload 4, 2) := by decide +kernel
theorem dX7_shared_21 : decode cX7_shared 21 = .ok (.aload 5, 2) := by decide +kernel
theorem dX7_shared_23 : decode cX7_shared 23 = .ok (.iload_n 3, 1) := by decide +kernel
theorem dX7_shared_24 : decode cX7_shared 24 = .ok (.invokevirtual 280, 3) := by decide +kernel
theorem dX7_shared_27 : decode cX7_shared 27 = .ok (.ireturn, 1) := by decide +kernel
theorem dX7_kin_0 : decode cX7_kin 0 = .ok (.aload_n 0, 1) := by decide +kernel
theorem dX7_kin_1 : decode cX7_kin 1 = .ok (.iload_n 1, 1) := by decide +kernel
theorem dX7_kin_2 : decode cX7_kin 2 = .ok (.invokevirtual 169, 3) := by decide +kernel
theorem dX7_kin_5 : decode cX7_kin 5 = .ok (.astore_n 3, 1) := by decide +kernel
theorem dX7_kin_6 : decode cX7_kin 6 = .ok (.iload_n 2, 1) := by decide +kernel
theorem dX7_kin_7 : decode cX7_kin 7 = .ok (.invokestatic 225, 3) := by decide +kernel
theorem dX7_kin_10 : decode cX7_kin 10 = .ok (.iconst (-1), 1) := by decide +kernel
theorem dX7_kin_11 : decode cX7_kin 11 = .ok (.istore 4, 2) := by decide +kernel
theorem dX7_kin_13 : decode cX7_kin 13 = .ok (.iconst 0, 1) := by decide +kernel
theorem dX7_kin_14 : decode cX7_kin 14 = .ok (.istore 5, 2) := by decide +kernel
theorem dX7_kin_16 : decode cX7_kin 16 = .ok (.iconst 0, 1) := by decide +kernel
theorem dX7_kin_17 : decode cX7_kin 17 = .ok (.istore 6, 2) := by decide +kernel
theorem dX7_kin_19 : decode cX7_kin 19 = .ok (.iload 6, 2) := by decide +kernel
theorem dX7_kin_21 : decode cX7_kin 21 = .ok (.iload_n 1, 1) := by decide +kernel
theorem dX7_kin_22 : decode cX7_kin 22 = .ok (.if_icmp .ge 39, 3) := by decide +kernel
theorem dX7_kin_25 : decode cX7_kin 25 = .ok (.aload_n 0, 1) := by decide +kernel
theorem dX7_kin_26 : decode cX7_kin 26 = .ok (.aload_n 3, 1) := by decide +kernel
theorem dX7_kin_27 : decode cX7_kin 27 = .ok (.aload_n 0, 1) := by decide +kernel
theorem dX7_kin_28 : decode cX7_kin 28 = .ok (.getfield 45, 3) := by decide +kernel
theorem dX7_kin_31 : decode cX7_kin 31 = .ok (.iload 6, 2) := by decide +kernel
theorem dX7_kin_33 : decode cX7_kin 33 = .ok (.aaload, 1) := by decide +kernel
theorem dX7_kin_34 : decode cX7_kin 34 = .ok (.iload_n 2, 1) := by decide +kernel
theorem dX7_kin_35 : decode cX7_kin 35 = .ok (.invokevirtual 280, 3) := by decide +kernel
theorem dX7_kin_38 : decode cX7_kin 38 = .ok (.istore 7, 2) := by decide +kernel
theorem dX7_kin_40 : decode cX7_kin 40 = .ok (.iload 7, 2) := by decide +kernel
theorem dX7_kin_42 : decode cX7_kin 42 = .ok (.iload 5, 2) := by decide +kernel
theorem dX7_kin_44 : decode cX7_kin 44 = .ok (.if_icmp .le 11, 3) := by decide +kernel
theorem dX7_kin_47 : decode cX7_kin 47 = .ok (.iload 7, 2) := by decide +kernel
theorem dX7_kin_49 : decode cX7_kin 49 = .ok (.istore 5, 2) := by decide +kernel
theorem dX7_kin_51 : decode cX7_kin 51 = .ok (.iload 6, 2) := by decide +kernel
theorem dX7_kin_53 : decode cX7_kin 53 = .ok (.istore 4, 2) := by decide +kernel
theorem dX7_kin_55 : decode cX7_kin 55 = .ok (.iinc 6 1, 3) := by decide +kernel
theorem dX7_kin_58 : decode cX7_kin 58 = .ok (.goto (-39), 3) := by decide +kernel
theorem dX7_kin_61 : decode cX7_kin 61 = .ok (.iload 4, 2) := by decide +kernel
theorem dX7_kin_63 : decode cX7_kin 63 = .ok (.ireturn, 1) := by decide +kernel
theorem dX7_date_0 : decode cX7_date 0 = .ok (.aload_n 0, 1) := by decide +kernel
theorem dX7_date_1 : decode cX7_date 1 = .ok (.iload_n 1, 1) := by decide +kernel
theorem dX7_date_2 : decode cX7_date 2 = .ok (.invokevirtual 169, 3) := by decide +kernel
theorem dX7_date_5 : decode cX7_date 5 = .ok (.astore_n 3, 1) := by decide +kernel
theorem dX7_date_6 : decode cX7_date 6 = .ok (.iload_n 2, 1) := by decide +kernel
theorem dX7_date_7 : decode cX7_date 7 = .ok (.invokestatic 225, 3) := by decide +kernel
theorem dX7_date_10 : decode cX7_date 10 = .ok (.iconst (-1), 1) := by decide +kernel
theorem dX7_date_11 : decode cX7_date 11 = .ok (.istore 4, 2) := by decide +kernel
theorem dX7_date_13 : decode cX7_date 13 = .ok (.iload_n 2, 1) := by decide +kernel
theorem dX7_date_14 : decode cX7_date 14 = .ok (.invokestatic 284, 3) := by decide +kernel
theorem dX7_date_17 : decode cX7_date 17 = .ok (.istore 5, 2) := by decide +kernel
theorem dX7_date_19 : decode cX7_date 19 = .ok (.iload 5, 2) := by decide +kernel
theorem dX7_date_21 : decode cX7_date 21 = .ok (.iload_n 2, 1) := by decide +kernel
theorem dX7_date_22 : decode cX7_date 22 = .ok (.invokestatic 287, 3) := by decide +kernel
theorem dX7_date_25 : decode cX7_date 25 = .ok (.if_icmp .gt 36, 3) := by decide +kernel
theorem dX7_date_28 : decode cX7_date 28 = .ok (.aload_n 0, 1) := by decide +kernel
theorem dX7_date_29 : decode cX7_date 29 = .ok (.aload_n 3, 1) := by decide +kernel
theorem dX7_date_30 : decode cX7_date 30 = .ok (.iload 5, 2) := by decide +kernel
theorem dX7_date_32 : decode cX7_date 32 = .ok (.invokevirtual 290, 3) := by decide +kernel
theorem dX7_date_35 : decode cX7_date 35 = .ok (.ifCond .eq 20, 3) := by decide +kernel
theorem dX7_date_38 : decode cX7_date 38 = .ok (.iload 4, 2) := by decide +kernel
theorem dX7_date_40 : decode cX7_date 40 = .ok (.aload_n 0, 1) := by decide +kernel
theorem dX7_date_41 : decode cX7_date 41 = .ok (.getfield 10, 3) := by decide +kernel
theorem dX7_date_44 : decode cX7_date 44 = .ok (.getfield 102, 3) := by decide +kernel
theorem dX7_date_47 : decode cX7_date 47 = .ok (.iload 5, 2) := by decide +kernel
theorem dX7_date_49 : decode cX7_date 49 = .ok (.iaload, 1) := by decide +kernel
theorem dX7_date_50 : decode cX7_date 50 = .ok (.invokestatic 294, 3) := by decide +kernel
theorem dX7_date_53 : decode cX7_date 53 = .ok (.istore 4, 2) := by decide +kernel
theorem dX7_date_55 : decode cX7_date 55 = .ok (.iinc 5 1, 3) := by decide +kernel
theorem dX7_date_58 : decode cX7_date 58 = .ok (.goto (-39), 3) := by decide +kernel
theorem dX7_date_61 : decode cX7_date 61 = .ok (.iload 4, 2) := by decide +kernel
theorem dX7_date_63 : decode cX7_date 63 = .ok (.ireturn, 1) := by decide +kernel
theorem dX7_isWithin_0 : decode cX7_isWithin 0 = .ok (.iload_n 0, 1) := by decide +kernel
theorem dX7_isWithin_1 : decode cX7_isWithin 1 = .ok (.iload_n 1, 1) := by decide +kernel
theorem dX7_isWithin_2 : decode cX7_isWithin 2 = .ok (.ineg, 1) := by decide +kernel
theorem dX7_isWithin_3 : decode cX7_isWithin 3 = .ok (.if_icmp .lt 12, 3) := by decide +kernel
theorem dX7_isWithin_6 : decode cX7_isWithin 6 = .ok (.iload_n 0, 1) := by decide +kernel
theorem dX7_isWithin_7 : decode cX7_isWithin 7 = .ok (.iload_n 1, 1) := by decide +kernel
theorem dX7_isWithin_8 : decode cX7_isWithin 8 = .ok (.if_icmp .gt 7, 3) := by decide +kernel
theorem dX7_isWithin_11 : decode cX7_isWithin 11 = .ok (.iconst 1, 1) := by decide +kernel
theorem dX7_isWithin_12 : decode cX7_isWithin 12 = .ok (.goto 4, 3) := by decide +kernel
theorem dX7_isWithin_15 : decode cX7_isWithin 15 = .ok (.iconst 0, 1) := by decide +kernel
theorem dX7_isWithin_16 : decode cX7_isWithin 16 = .ok (.ireturn, 1) := by decide +kernel
theorem dX7_isName_0 : decode cX7_isName 0 = .ok (.iload_n 0, 1) := by decide +kernel
theorem dX7_isName_1 : decode cX7_isName 1 = .ok (.iconst 1, 1) := by decide +kernel
theorem dX7_isName_2 : decode cX7_isName 2 = .ok (.if_icmp .lt 13, 3) := by decide +kernel
theorem dX7_isName_5 : decode cX7_isName 5 = .ok (.iload_n 0, 1) := by decide +kernel
theorem dX7_isName_6 : decode cX7_isName 6 = .ok (.bipush 99, 2) := by decide +kernel
theorem dX7_isName_8 : decode cX7_isName 8 = .ok (.if_icmp .gt 7, 3) := by decide +kernel
theorem dX7_isName_11 : decode cX7_isName 11 = .ok (.iconst 1, 1) := by decide +kernel
theorem dX7_isName_12 : decode cX7_isName 12 = .ok (.goto 4, 3) := by decide +kernel
theorem dX7_isName_15 : decode cX7_isName 15 = .ok (.iconst 0, 1) := by decide +kernel
theorem dX7_isName_16 : decode cX7_isName 16 = .ok (.ireturn, 1) := by decide +kernel
theorem dX7_isYear_0 : decode cX7_isYear 0 = .ok (.iload_n 0, 1) := by decide +kernel
theorem dX7_isYear_1 : decode cX7_isYear 1 = .ok (.ifCond .lt 14, 3) := by decide +kernel
theorem dX7_isYear_4 : decode cX7_isYear 4 = .ok (.iload_n 0, 1) := by decide +kernel
theorem dX7_isYear_5 : decode cX7_isYear 5 = .ok (.sipush 2000, 3) := by decide +kernel
theorem dX7_isYear_8 : decode cX7_isYear 8 = .ok (.if_icmp .gt 7, 3) := by decide +kernel
theorem dX7_isYear_11 : decode cX7_isYear 11 = .ok (.iconst 1, 1) := by decide +kernel
theorem dX7_isYear_12 : decode cX7_isYear 12 = .ok (.goto 4, 3) := by decide +kernel
theorem dX7_isYear_15 : decode cX7_isYear 15 = .ok (.iconst 0, 1) := by decide +kernel
theorem dX7_isYear_16 : decode cX7_isYear 16 = .ok (.ireturn, 1) := by decide +kernel
theorem dX7_firstOf_0 : decode cX7_firstOf 0 = .ok (.iload_n 0, 1) := by decide +kernel
theorem dX7_firstOf_1 : decode cX7_firstOf 1 = .ok (.bipush 8, 2) := by decide +kernel
theorem dX7_firstOf_3 : decode cX7_firstOf 3 = .ok (.imul, 1) := by decide +kernel
theorem dX7_firstOf_4 : decode cX7_firstOf 4 = .ok (.ireturn, 1) := by decide +kernel
theorem dX7_lastOf_0 : decode cX7_lastOf 0 = .ok (.iload_n 0, 1) := by decide +kernel
theorem dX7_lastOf_1 : decode cX7_lastOf 1 = .ok (.invokestatic 284, 3) := by decide +kernel
theorem dX7_lastOf_4 : decode cX7_lastOf 4 = .ok (.bipush 8, 2) := by decide +kernel
theorem dX7_lastOf_6 : decode cX7_lastOf 6 = .ok (.iadd, 1) := by decide +kernel
theorem dX7_lastOf_7 : decode cX7_lastOf 7 = .ok (.iconst 1, 1) := by decide +kernel
theorem dX7_lastOf_8 : decode cX7_lastOf 8 = .ok (.isub, 1) := by decide +kernel
theorem dX7_lastOf_9 : decode cX7_lastOf 9 = .ok (.ireturn, 1) := by decide +kernel
theorem dX7_needPoint_0 : decode cX7_needPoint 0 = .ok (.iload_n 0, 1) := by decide +kernel
theorem dX7_needPoint_1 : decode cX7_needPoint 1 = .ok (.ifCond .lt 9, 3) := by decide +kernel
theorem dX7_needPoint_4 : decode cX7_needPoint 4 = .ok (.iload_n 0, 1) := by decide +kernel
theorem dX7_needPoint_5 : decode cX7_needPoint 5 = .ok (.bipush 24, 2) := by decide +kernel
theorem dX7_needPoint_7 : decode cX7_needPoint 7 = .ok (.if_icmp .lt 14, 3) := by decide +kernel
theorem dX7_needPoint_10 : decode cX7_needPoint 10 = .ok (.new 116, 3) := by decide +kernel
theorem dX7_needPoint_13 : decode cX7_needPoint 13 = .ok (.dup, 1) := by decide +kernel
theorem dX7_needPoint_14 : decode cX7_needPoint 14 = .ok (.ldc_w 299, 3) := by decide +kernel
theorem dX7_needPoint_17 : decode cX7_needPoint 17 = .ok (.invokespecial 120, 3) := by decide +kernel
theorem dX7_needPoint_20 : decode cX7_needPoint 20 = .ok (.athrow, 1) := by decide +kernel
theorem dX7_needPoint_21 : decode cX7_needPoint 21 = .ok (.return_, 1) := by decide +kernel
theorem dX7_needBasin_0 : decode cX7_needBasin 0 = .ok (.iload_n 0, 1) := by decide +kernel
theorem dX7_needBasin_1 : decode cX7_needBasin 1 = .ok (.ifCond .lt 8, 3) := by decide +kernel
theorem dX7_needBasin_4 : decode cX7_needBasin 4 = .ok (.iload_n 0, 1) := by decide +kernel
theorem dX7_needBasin_5 : decode cX7_needBasin 5 = .ok (.iconst 3, 1) := by decide +kernel
theorem dX7_needBasin_6 : decode cX7_needBasin 6 = .ok (.if_icmp .lt 14, 3) := by decide +kernel
theorem dX7_needBasin_9 : decode cX7_needBasin 9 = .ok (.new 116, 3) := by decide +kernel
theorem dX7_needBasin_12 : decode cX7_needBasin 12 = .ok (.dup, 1) := by decide +kernel
theorem dX7_needBasin_13 : decode cX7_needBasin 13 = .ok (.ldc_w 301, 3) := by decide +kernel
theorem dX7_needBasin_16 : decode cX7_needBasin 16 = .ok (.invokespecial 120, 3) := by decide +kernel
theorem dX7_needBasin_19 : decode cX7_needBasin 19 = .ok (.athrow, 1) := by decide +kernel
theorem dX7_needBasin_20 : decode cX7_needBasin 20 = .ok (.return_, 1) := by decide +kernel
theorem dX7_needIsland_0 : decode cX7_needIsland 0 = .ok (.iload_n 1, 1) := by decide +kernel
theorem dX7_needIsland_1 : decode cX7_needIsland 1 = .ok (.ifCond .lt 14, 3) := by decide +kernel
theorem dX7_needIsland_4 : decode cX7_needIsland 4 = .ok (.iload_n 1, 1) := by decide +kernel
theorem dX7_needIsland_5 : decode cX7_needIsland 5 = .ok (.aload_n 0, 1) := by decide +kernel
theorem dX7_needIsland_6 : decode cX7_needIsland 6 = .ok (.getfield 52, 3) := by decide +kernel
theorem dX7_needIsland_9 : decode cX7_needIsland 9 = .ok (.getfield 213, 3) := by decide +kernel
theorem dX7_needIsland_12 : decode cX7_needIsland 12 = .ok (.if_icmp .lt 14, 3) := by decide +kernel
theorem dX7_needIsland_15 : decode cX7_needIsland 15 = .ok (.new 116, 3) := by decide +kernel
theorem dX7_needIsland_18 : decode cX7_needIsland 18 = .ok (.dup, 1) := by decide +kernel
theorem dX7_needIsland_19 : decode cX7_needIsland 19 = .ok (.ldc_w 303, 3) := by decide +kernel
theorem dX7_needIsland_22 : decode cX7_needIsland 22 = .ok (.invokespecial 120, 3) := by decide +kernel
theorem dX7_needIsland_25 : decode cX7_needIsland 25 = .ok (.athrow, 1) := by decide +kernel
theorem dX7_needIsland_26 : decode cX7_needIsland 26 = .ok (.return_, 1) := by decide +kernel
theorem dX7_needRoomForChart_0 : decode cX7_needRoomForChart 0 = .ok (.aload_n 0, 1) := by decide +kernel
theorem dX7_needRoomForChart_1 : decode cX7_needRoomForChart 1 = .ok (.getfield 56, 3) := by decide +kernel
theorem dX7_needRoomForChart_4 : decode cX7_needRoomForChart 4 = .ok (.bipush 12, 2) := by decide +kernel
theorem dX7_needRoomForChart_6 : decode cX7_needRoomForChart 6 = .ok (.if_icmp .lt 14, 3) := by decide +kernel
theorem dX7_needRoomForChart_9 : decode cX7_needRoomForChart 9 = .ok (.new 87, 3) := by decide +kernel
theorem dX7_needRoomForChart_12 : decode cX7_needRoomForChart 12 = .ok (.dup, 1) := by decide +kernel
theorem dX7_needRoomForChart_13 : decode cX7_needRoomForChart 13 = .ok (.ldc_w 305, 3) := by decide +kernel
theorem dX7_needRoomForChart_16 : decode cX7_needRoomForChart 16 = .ok (.invokespecial 91, 3) := by decide +kernel
theorem dX7_needRoomForChart_19 : decode cX7_needRoomForChart 19 = .ok (.athrow, 1) := by decide +kernel
theorem dX7_needRoomForChart_20 : decode cX7_needRoomForChart 20 = .ok (.return_, 1) := by decide +kernel
theorem dX7_chartOf_0 : decode cX7_chartOf 0 = .ok (.iload_n 1, 1) := by decide +kernel
theorem dX7_chartOf_1 : decode cX7_chartOf 1 = .ok (.ifCond .lt 11, 3) := by decide +kernel
theorem dX7_chartOf_4 : decode cX7_chartOf 4 = .ok (.iload_n 1, 1) := by decide +kernel
theorem dX7_chartOf_5 : decode cX7_chartOf 5 = .ok (.aload_n 0, 1) := by decide +kernel
theorem dX7_chartOf_6 : decode cX7_chartOf 6 = .ok (.getfield 56, 3) := by decide +kernel
theorem dX7_chartOf_9 : decode cX7_chartOf 9 = .ok (.if_icmp .lt 14, 3) := by decide +kernel
theorem dX7_chartOf_12 : decode cX7_chartOf 12 = .ok (.new 116, 3) := by decide +kernel
theorem dX7_chartOf_15 : decode cX7_chartOf 15 = .ok (.dup, 1) := by decide +kernel
theorem dX7_chartOf_16 : decode cX7_chartOf 16 = .ok (.ldc_w 307, 3) := by decide +kernel
theorem dX7_chartOf_19 : decode cX7_chartOf 19 = .ok (.invokespecial 120, 3) := by decide +kernel
theorem dX7_chartOf_22 : decode cX7_chartOf 22 = .ok (.athrow, 1) := by decide +kernel
theorem dX7_chartOf_23 : decode cX7_chartOf 23 = .ok (.aload_n 0, 1) := by decide +kernel
theorem dX7_chartOf_24 : decode cX7_chartOf 24 = .ok (.getfield 45, 3) := by decide +kernel
theorem dX7_chartOf_27 : decode cX7_chartOf 27 = .ok (.iload_n 1, 1) := by decide +kernel
theorem dX7_chartOf_28 : decode cX7_chartOf 28 = .ok (.aaload, 1) := by decide +kernel
theorem dX7_chartOf_29 : decode cX7_chartOf 29 = .ok (.areturn, 1) := by decide +kernel
theorem dX7_copyistOf_0 : decode cX7_copyistOf 0 = .ok (.iload_n 1, 1) := by decide +kernel
theorem dX7_copyistOf_1 : decode cX7_copyistOf 1 = .ok (.ifCond .lt 8, 3) := by decide +kernel
theorem dX7_copyistOf_4 : decode cX7_copyistOf 4 = .ok (.iload_n 1, 1) := by decide +kernel
theorem dX7_copyistOf_5 : decode cX7_copyistOf 5 = .ok (.iconst 4, 1) := by decide +kernel
theorem dX7_copyistOf_6 : decode cX7_copyistOf 6 = .ok (.if_icmp .lt 14, 3) := by decide +kernel
theorem dX7_copyistOf_9 : decode cX7_copyistOf 9 = .ok (.new 116, 3) := by decide +kernel
theorem dX7_copyistOf_12 : decode cX7_copyistOf 12 = .ok (.dup, 1) := by decide +kernel
theorem dX7_copyistOf_13 : decode cX7_copyistOf 13 = .ok (.ldc_w 309, 3) := by decide +kernel
theorem dX7_copyistOf_16 : decode cX7_copyistOf 16 = .ok (.invokespecial 120, 3) := by decide +kernel
theorem dX7_copyistOf_19 : decode cX7_copyistOf 19 = .ok (.athrow, 1) := by decide +kernel
theorem dX7_copyistOf_20 : decode cX7_copyistOf 20 = .ok (.aload_n 0, 1) := by decide +kernel
theorem dX7_copyistOf_21 : decode cX7_copyistOf 21 = .ok (.getfield 39, 3) := by decide +kernel
theorem dX7_copyistOf_24 : decode cX7_copyistOf 24 = .ok (.iload_n 1, 1) := by decide +kernel
theorem dX7_copyistOf_25 : decode cX7_copyistOf 25 = .ok (.aaload, 1) := by decide +kernel
theorem dX7_copyistOf_26 : decode cX7_copyistOf 26 = .ok (.areturn, 1) := by decide +kernel
theorem dX7_layOut_0 : decode cX7_layOut 0 = .ok (.iconst 1, 1) := by decide +kernel
theorem dX7_layOut_1 : decode cX7_layOut 1 = .ok (.istore_n 3, 1) := by decide +kernel
theorem dX7_layOut_2 : decode cX7_layOut 2 = .ok (.iconst 0, 1) := by decide +kernel
theorem dX7_layOut_3 : decode cX7_layOut 3 = .ok (.istore 4, 2) := by decide +kernel
theorem dX7_layOut_5 : decode cX7_layOut 5 = .ok (.iload 4, 2) := by decide +kernel
theorem dX7_layOut_7 : decode cX7_layOut 7 = .ok (.bipush 24, 2) := by decide +kernel
theorem dX7_layOut_9 : decode cX7_layOut 9 = .ok (.if_icmp .ge 28, 3) := by decide +kernel
theorem dX7_layOut_12 : decode cX7_layOut 12 = .ok (.iload_n 3, 1) := by decide +kernel
theorem dX7_layOut_13 : decode cX7_layOut 13 = .ok (.ifCond .eq 24, 3) := by decide +kernel
theorem dX7_layOut_16 : decode cX7_layOut 16 = .ok (.aload_n 0, 1) := by decide +kernel
theorem dX7_layOut_17 : decode cX7_layOut 17 = .ok (.aload_n 1, 1) := by decide +kernel
theorem dX7_layOut_18 : decode cX7_layOut 18 = .ok (.iload_n 2, 1) := by decide +kernel
theorem dX7_layOut_19 : decode cX7_layOut 19 = .ok (.invokevirtual 311, 3) := by decide +kernel
theorem dX7_layOut_22 : decode cX7_layOut 22 = .ok (.aload_n 0, 1) := by decide +kernel
theorem dX7_layOut_23 : decode cX7_layOut 23 = .ok (.getfield 33, 3) := by decide +kernel
theorem dX7_layOut_26 : decode cX7_layOut 26 = .ok (.aload_n 1, 1) := by decide +kernel
theorem dX7_layOut_27 : decode cX7_layOut 27 = .ok (.invokevirtual 314, 3) := by decide +kernel
theorem dX7_layOut_30 : decode cX7_layOut 30 = .ok (.istore_n 3, 1) := by decide +kernel
theorem dX7_layOut_31 : decode cX7_layOut 31 = .ok (.iinc 4 1, 3) := by decide +kernel
theorem dX7_layOut_34 : decode cX7_layOut 34 = .ok (.goto (-29), 3) := by decide +kernel
theorem dX7_layOut_37 : decode cX7_layOut 37 = .ok (.return_, 1) := by decide +kernel
theorem dX7_gather_0 : decode cX7_gather 0 = .ok (.aload_n 0, 1) := by decide +kernel
theorem dX7_gather_1 : decode cX7_gather 1 = .ok (.getfield 33, 3) := by decide +kernel
theorem dX7_gather_4 : decode cX7_gather 4 = .ok (.invokevirtual 318, 3) := by decide +kernel
theorem dX7_gather_7 : decode cX7_gather 7 = .ok (.iconst 0, 1) := by decide +kernel
theorem dX7_gather_8 : decode cX7_gather 8 = .ok (.istore_n 3, 1) := by decide +kernel
theorem dX7_gather_9 : decode cX7_gather 9 = .ok (.iload_n 3, 1) := by decide +kernel
theorem dX7_gather_10 : decode cX7_gather 10 = .ok (.iload_n 2, 1) := by decide +kernel
theorem dX7_gather_11 : decode cX7_gather 11 = .ok (.if_icmp .ge 156, 3) := by decide +kernel
theorem dX7_gather_14 : decode cX7_gather 14 = .ok (.aload_n 0, 1) := by decide +kernel
theorem dX7_gather_15 : decode cX7_gather 15 = .ok (.getfield 26, 3) := by decide +kernel
theorem dX7_gather_18 : decode cX7_gather 18 = .ok (.getfield 125, 3) := by decide +kernel
theorem dX7_gather_21 : decode cX7_gather 21 = .ok (.iload_n 3, 1) := by decide +kernel
theorem dX7_gather_22 : decode cX7_gather 22 = .ok (.iaload, 1) := by decide +kernel
theorem dX7_gather_23 : decode cX7_gather 23 = .ok (.istore 4, 2) := by decide +kernel
theorem dX7_gather_25 : decode cX7_gather 25 = .ok (.aload_n 0, 1) := by decide +kernel
theorem dX7_gather_26 : decode cX7_gather 26 = .ok (.getfield 26, 3) := by decide +kernel
theorem dX7_gather_29 : decode cX7_gather 29 = .ok (.getfield 128, 3) := by decide +kernel
theorem dX7_gather_32 : decode cX7_gather 32 = .ok (.iload_n 3, 1) := by decide +kernel
theorem dX7_gather_33 : decode cX7_gather 33 = .ok (.iaload, 1) := by decide +kernel
theorem dX7_gather_34 : decode cX7_gather 34 = .ok (.istore 5, 2) := by decide +kernel
theorem dX7_gather_36 : decode cX7_gather 36 = .ok (.aload_n 1, 1) := by decide +kernel
theorem dX7_gather_37 : decode cX7_gather 37 = .ok (.iload 4, 2) := by decide +kernel
theorem dX7_gather_39 : decode cX7_gather 39 = .ok (.invokevirtual 179, 3) := by decide +kernel
theorem dX7_gather_42 : decode cX7_gather 42 = .ok (.istore 6, 2) := by decide +kernel
theorem dX7_gather_44 : decode cX7_gather 44 = .ok (.aload_n 1, 1) := by decide +kernel
theorem dX7_gather_45 : decode cX7_gather 45 = .ok (.iload 5, 2) := by decide +kernel
theorem dX7_gather_47 : decode cX7_gather 47 = .ok (.invokevirtual 179, 3) := by decide +kernel
theorem dX7_gather_50 : decode cX7_gather 50 = .ok (.istore 7, 2) := by decide +kernel
theorem dX7_gather_52 : decode cX7_gather 52 = .ok (.iload 6, 2) := by decide +kernel
theorem dX7_gather_54 : decode cX7_gather 54 = .ok (.ifCond .eq 54, 3) := by decide +kernel
theorem dX7_gather_57 : decode cX7_gather 57 = .ok (.iload 7, 2) := by decide +kernel
theorem dX7_gather_59 : decode cX7_gather 59 = .ok (.ifCond .ne 49, 3) := by decide +kernel
theorem dX7_gather_62 : decode cX7_gather 62 = .ok (.aload_n 0, 1) := by decide +kernel
theorem dX7_gather_63 : decode cX7_gather 63 = .ok (.getfield 33, 3) := by decide +kernel
theorem dX7_gather_66 : decode cX7_gather 66 = .ok (.iload 5, 2) := by decide +kernel
theorem dX7_gather_68 : decode cX7_gather 68 = .ok (.aload_n 1, 1) := by decide +kernel
theorem dX7_gather_69 : decode cX7_gather 69 = .ok (.getfield 182, 3) := by decide +kernel
theorem dX7_gather_72 : decode cX7_gather 72 = .ok (.iload 4, 2) := by decide +kernel
theorem dX7_gather_74 : decode cX7_gather 74 = .ok (.iaload, 1) := by decide +kernel
theorem dX7_gather_75 : decode cX7_gather 75 = .ok (.aload_n 0, 1) := by decide +kernel
theorem dX7_gather_76 : decode cX7_gather 76 = .ok (.getfield 26, 3) := by decide +kernel
theorem dX7_gather_79 : decode cX7_gather 79 = .ok (.getfield 131, 3) := by decide +kernel
theorem dX7_gather_82 : decode cX7_gather 82 = .ok (.iload_n 3, 1) := by decide +kernel
theorem dX7_gather_83 : decode cX7_gather 83 = .ok (.iaload, 1) := by decide +kernel
theorem dX7_gather_84 : decode cX7_gather 84 = .ok (.iadd, 1) := by decide +kernel
theorem dX7_gather_85 : decode cX7_gather 85 = .ok (.aload_n 1, 1) := by decide +kernel
theorem dX7_gather_86 : decode cX7_gather 86 = .ok (.getfield 187, 3) := by decide +kernel
theorem dX7_gather_89 : decode cX7_gather 89 = .ok (.iload 4, 2) := by decide +kernel
theorem dX7_gather_91 : decode cX7_gather 91 = .ok (.iaload, 1) := by decide +kernel
theorem dX7_gather_92 : decode cX7_gather 92 = .ok (.aload_n 0, 1) := by decide +kernel
theorem dX7_gather_93 : decode cX7_gather 93 = .ok (.getfield 26, 3) := by decide +kernel
theorem dX7_gather_96 : decode cX7_gather 96 = .ok (.getfield 132, 3) := by decide +kernel
theorem dX7_gather_99 : decode cX7_gather 99 = .ok (.iload_n 3, 1) := by decide +kernel
theorem dX7_gather_100 : decode cX7_gather 100 = .ok (.iaload, 1) := by decide +kernel
theorem dX7_gather_101 : decode cX7_gather 101 = .ok (.iadd, 1) := by decide +kernel
theorem dX7_gather_102 : decode cX7_gather 102 = .ok (.invokevirtual 321, 3) := by decide +kernel
theorem dX7_gather_105 : decode cX7_gather 105 = .ok (.goto 56, 3) := by decide +kernel
theorem dX7_gather_108 : decode cX7_gather 108 = .ok (.iload 7, 2) := by decide +kernel
theorem dX7_gather_110 : decode cX7_gather 110 = .ok (.ifCond .eq 51, 3) := by decide +kernel
theorem dX7_gather_113 : decode cX7_gather 113 = .ok (.iload 6, 2) := by decide +kernel
theorem dX7_gather_115 : decode cX7_gather 115 = .ok (.ifCond .ne 46, 3) := by decide +kernel
theorem dX7_gather_118 : decode cX7_gather 118 = .ok (.aload_n 0, 1) := by decide +kernel
theorem dX7_gather_119 : decode cX7_gather 119 = .ok (.getfield 33, 3) := by decide +kernel
theorem dX7_gather_122 : decode cX7_gather 122 = .ok (.iload 4, 2) := by decide +kernel
theorem dX7_gather_124 : decode cX7_gather 124 = .ok (.aload_n 1, 1) := by decide +kernel
theorem dX7_gather_125 : decode cX7_gather 125 = .ok (.getfield 182, 3) := by decide +kernel
theorem dX7_gather_128 : decode cX7_gather 128 = .ok (.iload 5, 2) := by decide +kernel
theorem dX7_gather_130 : decode cX7_gather 130 = .ok (.iaload, 1) := by decide +kernel
theorem dX7_gather_131 : decode cX7_gather 131 = .ok (.aload_n 0, 1) := by decide +kernel
theorem dX7_gather_132 : decode cX7_gather 132 = .ok (.getfield 26, 3) := by decide +kernel
theorem dX7_gather_135 : decode cX7_gather 135 = .ok (.getfield 131, 3) := by decide +kernel
theorem dX7_gather_138 : decode cX7_gather 138 = .ok (.iload_n 3, 1) := by decide +kernel
theorem dX7_gather_139 : decode cX7_gather 139 = .ok (.iaload, 1) := by decide +kernel
theorem dX7_gather_140 : decode cX7_gather 140 = .ok (.isub, 1) := by decide +kernel
theorem dX7_gather_141 : decode cX7_gather 141 = .ok (.aload_n 1, 1) := by decide +kernel
theorem dX7_gather_142 : decode cX7_gather 142 = .ok (.getfield 187, 3) := by decide +kernel
theorem dX7_gather_145 : decode cX7_gather 145 = .ok (.iload 5, 2) := by decide +kernel
theorem dX7_gather_147 : decode cX7_gather 147 = .ok (.iaload, 1) := by decide +kernel
theorem dX7_gather_148 : decode cX7_gather 148 = .ok (.aload_n 0, 1) := by decide +kernel
theorem dX7_gather_149 : decode cX7_gather 149 = .ok (.getfield 26, 3) := by decide +kernel
theorem dX7_gather_152 : decode cX7_gather 152 = .ok (.getfield 132, 3) := by decide +kernel
theorem dX7_gather_155 : decode cX7_gather 155 = .ok (.iload_n 3, 1) := by decide +kernel
theorem dX7_gather_156 : decode cX7_gather 156 = .ok (.iaload, 1) := by decide +kernel
theorem dX7_gather_157 : decode cX7_gather 157 = .ok (.isub, 1) := by decide +kernel
theorem dX7_gather_158 : decode cX7_gather 158 = .ok (.invokevirtual 321, 3) := by decide +kernel
theorem dX7_gather_161 : decode cX7_gather 161 = .ok (.iinc 3 1, 3) := by decide +kernel
theorem dX7_gather_164 : decode cX7_gather 164 = .ok (.goto (-155), 3) := by decide +kernel
theorem dX7_gather_167 : decode cX7_gather 167 = .ok (.return_, 1) := by decide +kernel
theorem dX7_drawn_0 : decode cX7_drawn 0 = .ok (.iload_n 1, 1) := by decide +kernel
theorem dX7_drawn_1 : decode cX7_drawn 1 = .ok (.lookupswitch 37 #[(1, 27), (2, 33)], 27) := by decide +kernel
theorem dX7_drawn_28 : decode cX7_drawn 28 = .ok (.iload_n 0, 1) := by decide +kernel
theorem dX7_drawn_29 : decode cX7_drawn 29 = .ok (.iconst 5, 1) := by decide +kernel
theorem dX7_drawn_30 : decode cX7_drawn 30 = .ok (.idiv, 1) := by decide +kernel
theorem dX7_drawn_31 : decode cX7_drawn 31 = .ok (.iconst 5, 1) := by decide +kernel
theorem dX7_drawn_32 : decode cX7_drawn 32 = .ok (.imul, 1) := by decide +kernel
theorem dX7_drawn_33 : decode cX7_drawn 33 = .ok (.ireturn, 1) := by decide +kernel
theorem dX7_drawn_34 : decode cX7_drawn 34 = .ok (.iload_n 0, 1) := by decide +kernel
theorem dX7_drawn_35 : decode cX7_drawn 35 = .ok (.iload_n 2, 1) := by decide +kernel
theorem dX7_drawn_36 : decode cX7_drawn 36 = .ok (.iadd, 1) := by decide +kernel
theorem dX7_drawn_37 : decode cX7_drawn 37 = .ok (.ireturn, 1) := by decide +kernel
theorem dX7_drawn_38 : decode cX7_drawn 38 = .ok (.iload_n 0, 1) := by decide +kernel
theorem dX7_drawn_39 : decode cX7_drawn 39 = .ok (.ireturn, 1) := by decide +kernel
theorem dX7_sourceOf_0 : decode cX7_sourceOf 0 = .ok (.iload_n 1, 1) := by decide +kernel
theorem dX7_sourceOf_1 : decode cX7_sourceOf 1 = .ok (.ifCond .lt 25, 3) := by decide +kernel
theorem dX7_sourceOf_4 : decode cX7_sourceOf 4 = .ok (.iload_n 1, 1) := by decide +kernel
theorem dX7_sourceOf_5 : decode cX7_sourceOf 5 = .ok (.aload_n 0, 1) := by decide +kernel
theorem dX7_sourceOf_6 : decode cX7_sourceOf 6 = .ok (.getfield 56, 3) := by decide +kernel
theorem dX7_sourceOf_9 : decode cX7_sourceOf 9 = .ok (.if_icmp .ge 17, 3) := by decide +kernel
theorem dX7_sourceOf_12 : decode cX7_sourceOf 12 = .ok (.aload_n 0, 1) := by decide +kernel
theorem dX7_sourceOf_13 : decode cX7_sourceOf 13 = .ok (.getfield 45, 3) := by decide +kernel
theorem dX7_sourceOf_16 : decode cX7_sourceOf 16 = .ok (.iload_n 1, 1) := by decide +kernel
theorem dX7_sourceOf_17 : decode cX7_sourceOf 17 = .ok (.aaload, 1) := by decide +kernel
theorem dX7_sourceOf_18 : decode cX7_sourceOf 18 = .ok (.getfield 244, 3) := by decide +kernel
theorem dX7_sourceOf_21 : decode cX7_sourceOf 21 = .ok (.iload_n 2, 1) := by decide +kernel
theorem dX7_sourceOf_22 : decode cX7_sourceOf 22 = .ok (.iaload, 1) := by decide +kernel
theorem dX7_sourceOf_23 : decode cX7_sourceOf 23 = .ok (.goto 4, 3) := by decide +kernel
theorem dX7_sourceOf_26 : decode cX7_sourceOf 26 = .ok (.iconst (-1), 1) := by decide +kernel
theorem dX7_sourceOf_27 : decode cX7_sourceOf 27 = .ok (.ireturn, 1) := by decide +kernel
theorem dX7_leadsBack_0 : decode cX7_leadsBack 0 = .ok (.iload_n 3, 1) := by decide +kernel
theorem dX7_leadsBack_1 : decode cX7_leadsBack 1 = .ok (.istore 5, 2) := by decide +kernel
theorem dX7_leadsBack_3 : decode cX7_leadsBack 3 = .ok (.iload 5, 2) := by decide +kernel
theorem dX7_leadsBack_5 : decode cX7_leadsBack 5 = .ok (.iload 4, 2) := by decide +kernel
theorem dX7_leadsBack_7 : decode cX7_leadsBack 7 = .ok (.if_icmp .gt 52, 3) := by decide +kernel
theorem dX7_leadsBack_10 : decode cX7_leadsBack 10 = .ok (.iload_n 2, 1) := by decide +kernel
theorem dX7_leadsBack_11 : decode cX7_leadsBack 11 = .ok (.istore 6, 2) := by decide +kernel
theorem dX7_leadsBack_13 : decode cX7_leadsBack 13 = .ok (.iconst 0, 1) := by decide +kernel
theorem dX7_leadsBack_14 : decode cX7_leadsBack 14 = .ok (.istore 7, 2) := by decide +kernel
theorem dX7_leadsBack_16 : decode cX7_leadsBack 16 = .ok (.iload 7, 2) := by decide +kernel
theorem dX7_leadsBack_18 : decode cX7_leadsBack 18 = .ok (.bipush 12, 2) := by decide +kernel
theorem dX7_leadsBack_20 : decode cX7_leadsBack 20 = .ok (.if_icmp .ge 33, 3) := by decide +kernel
theorem dX7_leadsBack_23 : decode cX7_leadsBack 23 = .ok (.iload 6, 2) := by decide +kernel
theorem dX7_leadsBack_25 : decode cX7_leadsBack 25 = .ok (.iconst (-1), 1) := by decide +kernel
theorem dX7_leadsBack_26 : decode cX7_leadsBack 26 = .ok (.if_icmp .eq 27, 3) := by decide +kernel
theorem dX7_leadsBack_29 : decode cX7_leadsBack 29 = .ok (.aload_n 0, 1) := by decide +kernel
theorem dX7_leadsBack_30 : decode cX7_leadsBack 30 = .ok (.iload 6, 2) := by decide +kernel
theorem dX7_leadsBack_32 : decode cX7_leadsBack 32 = .ok (.iload 5, 2) := by decide +kernel
theorem dX7_leadsBack_34 : decode cX7_leadsBack 34 = .ok (.invokevirtual 256, 3) := by decide +kernel
theorem dX7_leadsBack_37 : decode cX7_leadsBack 37 = .ok (.istore 6, 2) := by decide +kernel
theorem dX7_leadsBack_39 : decode cX7_leadsBack 39 = .ok (.iload 6, 2) := by decide +kernel
theorem dX7_leadsBack_41 : decode cX7_leadsBack 41 = .ok (.iload_n 1, 1) := by decide +kernel
theorem dX7_leadsBack_42 : decode cX7_leadsBack 42 = .ok (.if_icmp .ne 5, 3) := by decide +kernel
theorem dX7_leadsBack_45 : decode cX7_leadsBack 45 = .ok (.iconst 1, 1) := by decide +kernel
theorem dX7_leadsBack_46 : decode cX7_leadsBack 46 = .ok (.ireturn, 1) := by decide +kernel
theorem dX7_leadsBack_47 : decode cX7_leadsBack 47 = .ok (.iinc 7 1, 3) := by decide +kernel
theorem dX7_leadsBack_50 : decode cX7_leadsBack 50 = .ok (.goto (-34), 3) := by decide +kernel
theorem dX7_leadsBack_53 : decode cX7_leadsBack 53 = .ok (.iinc 5 1, 3) := by decide +kernel
theorem dX7_leadsBack_56 : decode cX7_leadsBack 56 = .ok (.goto (-53), 3) := by decide +kernel
theorem dX7_leadsBack_59 : decode cX7_leadsBack 59 = .ok (.iconst 0, 1) := by decide +kernel
theorem dX7_leadsBack_60 : decode cX7_leadsBack 60 = .ok (.ireturn, 1) := by decide +kernel
theorem dX7_errorOf_0 : decode cX7_errorOf 0 = .ok (.iload_n 3, 1) := by decide +kernel
theorem dX7_errorOf_1 : decode cX7_errorOf 1 = .ok (.ifCond .eq 22, 3) := by decide +kernel
theorem dX7_errorOf_4 : decode cX7_errorOf 4 = .ok (.aload_n 1, 1) := by decide +kernel
theorem dX7_errorOf_5 : decode cX7_errorOf 5 = .ok (.getfield 182, 3) := by decide +kernel
theorem dX7_errorOf_8 : decode cX7_errorOf 8 = .ok (.iload_n 2, 1) := by decide +kernel
theorem dX7_errorOf_9 : decode cX7_errorOf 9 = .ok (.iaload, 1) := by decide +kernel
theorem dX7_errorOf_10 : decode cX7_errorOf 10 = .ok (.aload_n 0, 1) := by decide +kernel
theorem dX7_errorOf_11 : decode cX7_errorOf 11 = .ok (.getfield 10, 3) := by decide +kernel
theorem dX7_errorOf_14 : decode cX7_errorOf 14 = .ok (.getfield 92, 3) := by decide +kernel
theorem dX7_errorOf_17 : decode cX7_errorOf 17 = .ok (.iload_n 2, 1) := by decide +kernel
theorem dX7_errorOf_18 : decode cX7_errorOf 18 = .ok (.iaload, 1) := by decide +kernel
theorem dX7_errorOf_19 : decode cX7_errorOf 19 = .ok (.isub, 1) := by decide +kernel
theorem dX7_errorOf_20 : decode cX7_errorOf 20 = .ok (.goto 19, 3) := by decide +kernel
theorem dX7_errorOf_23 : decode cX7_errorOf 23 = .ok (.aload_n 1, 1) := by decide +kernel
theorem dX7_errorOf_24 : decode cX7_errorOf 24 = .ok (.getfield 187, 3) := by decide +kernel
theorem dX7_errorOf_27 : decode cX7_errorOf 27 = .ok (.iload_n 2, 1) := by decide +kernel
theorem dX7_errorOf_28 : decode cX7_errorOf 28 = .ok (.iaload, 1) := by decide +kernel
theorem dX7_errorOf_29 : decode cX7_errorOf 29 = .ok (.aload_n 0, 1) := by decide +kernel
theorem dX7_errorOf_30 : decode cX7_errorOf 30 = .ok (.getfield 10, 3) := by decide +kernel
theorem dX7_errorOf_33 : decode cX7_errorOf 33 = .ok (.getfield 96, 3) := by decide +kernel
theorem dX7_errorOf_36 : decode cX7_errorOf 36 = .ok (.iload_n 2, 1) := by decide +kernel
theorem dX7_errorOf_37 : decode cX7_errorOf 37 = .ok (.iaload, 1) := by decide +kernel
theorem dX7_errorOf_38 : decode cX7_errorOf 38 = .ok (.isub, 1) := by decide +kernel
theorem dX7_errorOf_39 : decode cX7_errorOf 39 = .ok (.ireturn, 1) := by decide +kernel
theorem dX7_hasTrueName_0 : decode cX7_hasTrueName 0 = .ok (.aload_n 1, 1) := by decide +kernel
theorem dX7_hasTrueName_1 : decode cX7_hasTrueName 1 = .ok (.getfield 143, 3) := by decide +kernel
theorem dX7_hasTrueName_4 : decode cX7_hasTrueName 4 = .ok (.iload_n 2, 1) := by decide +kernel
theorem dX7_hasTrueName_5 : decode cX7_hasTrueName 5 = .ok (.iaload, 1) := by decide +kernel
theorem dX7_hasTrueName_6 : decode cX7_hasTrueName 6 = .ok (.aload_n 0, 1) := by decide +kernel
theorem dX7_hasTrueName_7 : decode cX7_hasTrueName 7 = .ok (.getfield 10, 3) := by decide +kernel
theorem dX7_hasTrueName_10 : decode cX7_hasTrueName 10 = .ok (.getfield 99, 3) := by decide +kernel
theorem dX7_hasTrueName_13 : decode cX7_hasTrueName 13 = .ok (.iload_n 2, 1) := by decide +kernel
theorem dX7_hasTrueName_14 : decode cX7_hasTrueName 14 = .ok (.iaload, 1) := by decide +kernel
theorem dX7_hasTrueName_15 : decode cX7_hasTrueName 15 = .ok (.if_icmp .ne 7, 3) := by decide +kernel
theorem dX7_hasTrueName_18 : decode cX7_hasTrueName 18 = .ok (.iconst 1, 1) := by decide +kernel
theorem dX7_hasTrueName_19 : decode cX7_hasTrueName 19 = .ok (.goto 4, 3) := by decide +kernel
theorem dX7_hasTrueName_22 : decode cX7_hasTrueName 22 = .ok (.iconst 0, 1) := by decide +kernel
theorem dX7_hasTrueName_23 : decode cX7_hasTrueName 23 = .ok (.ireturn, 1) := by decide +kernel
theorem dX7_falseNames_0 : decode cX7_falseNames 0 = .ok (.iconst 0, 1) := by decide +kernel
theorem dX7_falseNames_1 : decode cX7_falseNames 1 = .ok (.istore_n 2, 1) := by decide +kernel
theorem dX7_falseNames_2 : decode cX7_falseNames 2 = .ok (.iconst 0, 1) := by decide +kernel
theorem dX7_falseNames_3 : decode cX7_falseNames 3 = .ok (.istore_n 3, 1) := by decide +kernel
theorem dX7_falseNames_4 : decode cX7_falseNames 4 = .ok (.iload_n 3, 1) := by decide +kernel
theorem dX7_falseNames_5 : decode cX7_falseNames 5 = .ok (.bipush 24, 2) := by decide +kernel
theorem dX7_falseNames_7 : decode cX7_falseNames 7 = .ok (.if_icmp .ge 21, 3) := by decide +kernel
theorem dX7_falseNames_10 : decode cX7_falseNames 10 = .ok (.aload_n 0, 1) := by decide +kernel
theorem dX7_falseNames_11 : decode cX7_falseNames 11 = .ok (.aload_n 1, 1) := by decide +kernel
theorem dX7_falseNames_12 : decode cX7_falseNames 12 = .ok (.iload_n 3, 1) := by decide +kernel
theorem dX7_falseNames_13 : decode cX7_falseNames 13 = .ok (.invokevirtual 290, 3) := by decide +kernel
theorem dX7_falseNames_16 : decode cX7_falseNames 16 = .ok (.ifCond .ne 6, 3) := by decide +kernel
theorem dX7_falseNames_19 : decode cX7_falseNames 19 = .ok (.iinc 2 1, 3) := by decide +kernel
theorem dX7_falseNames_22 : decode cX7_falseNames 22 = .ok (.iinc 3 1, 3) := by decide +kernel
theorem dX7_falseNames_25 : decode cX7_falseNames 25 = .ok (.goto (-21), 3) := by decide +kernel
theorem dX7_falseNames_28 : decode cX7_falseNames 28 = .ok (.iload_n 2, 1) := by decide +kernel
theorem dX7_falseNames_29 : decode cX7_falseNames 29 = .ok (.ireturn, 1) := by decide +kernel
theorem dX7_shift_0 : decode cX7_shift 0 = .ok (.iconst 0, 1) := by decide +kernel
theorem dX7_shift_1 : decode cX7_shift 1 = .ok (.istore 4, 2) := by decide +kernel
theorem dX7_shift_3 : decode cX7_shift 3 = .ok (.iconst 0, 1) := by decide +kernel
theorem dX7_shift_4 : decode cX7_shift 4 = .ok (.istore 5, 2) := by decide +kernel
theorem dX7_shift_6 : decode cX7_shift 6 = .ok (.iload_n 2, 1) := by decide +kernel
theorem dX7_shift_7 : decode cX7_shift 7 = .ok (.invokestatic 284, 3) := by decide +kernel
theorem dX7_shift_10 : decode cX7_shift 10 = .ok (.istore 6, 2) := by decide +kernel
theorem dX7_shift_12 : decode cX7_shift 12 = .ok (.iload 6, 2) := by decide +kernel
theorem dX7_shift_14 : decode cX7_shift 14 = .ok (.iload_n 2, 1) := by decide +kernel
theorem dX7_shift_15 : decode cX7_shift 15 = .ok (.invokestatic 287, 3) := by decide +kernel
theorem dX7_shift_18 : decode cX7_shift 18 = .ok (.if_icmp .gt 34, 3) := by decide +kernel
theorem dX7_shift_21 : decode cX7_shift 21 = .ok (.aload_n 1, 1) := by decide +kernel
theorem dX7_shift_22 : decode cX7_shift 22 = .ok (.iload 6, 2) := by decide +kernel
theorem dX7_shift_24 : decode cX7_shift 24 = .ok (.invokevirtual 179, 3) := by decide +kernel
theorem dX7_shift_27 : decode cX7_shift 27 = .ok (.ifCond .eq 19, 3) := by decide +kernel
theorem dX7_shift_30 : decode cX7_shift 30 = .ok (.iload 5, 2) := by decide +kernel
theorem dX7_shift_32 : decode cX7_shift 32 = .ok (.aload_n 0, 1) := by decide +kernel
theorem dX7_shift_33 : decode cX7_shift 33 = .ok (.aload_n 1, 1) := by decide +kernel
theorem dX7_shift_34 : decode cX7_shift 34 = .ok (.iload 6, 2) := by decide +kernel
theorem dX7_shift_36 : decode cX7_shift 36 = .ok (.iload_n 3, 1) := by decide +kernel
theorem dX7_shift_37 : decode cX7_shift 37 = .ok (.invokevirtual 247, 3) := by decide +kernel
theorem dX7_shift_40 : decode cX7_shift 40 = .ok (.iadd, 1) := by decide +kernel
theorem dX7_shift_41 : decode cX7_shift 41 = .ok (.istore 5, 2) := by decide +kernel
theorem dX7_shift_43 : decode cX7_shift 43 = .ok (.iinc 4 1, 3) := by decide +kernel
theorem dX7_shift_46 : decode cX7_shift 46 = .ok (.iinc 6 1, 3) := by decide +kernel
theorem dX7_shift_49 : decode cX7_shift 49 = .ok (.goto (-37), 3) := by decide +kernel
theorem dX7_shift_52 : decode cX7_shift 52 = .ok (.iload 4, 2) := by decide +kernel
theorem dX7_shift_54 : decode cX7_shift 54 = .ok (.ifCond .le 11, 3) := by decide +kernel
theorem dX7_shift_57 : decode cX7_shift 57 = .ok (.iload 5, 2) := by decide +kernel
theorem dX7_shift_59 : decode cX7_shift 59 = .ok (.iload 4, 2) := by decide +kernel
theorem dX7_shift_61 : decode cX7_shift 61 = .ok (.idiv, 1) := by decide +kernel
theorem dX7_shift_62 : decode cX7_shift 62 = .ok (.goto 4, 3) := by decide +kernel
theorem dX7_shift_65 : decode cX7_shift 65 = .ok (.iconst 0, 1) := by decide +kernel
theorem dX7_shift_66 : decode cX7_shift 66 = .ok (.ireturn, 1) := by decide +kernel
theorem dX7_residual_0 : decode cX7_residual 0 = .ok (.aload_n 0, 1) := by decide +kernel
theorem dX7_residual_1 : decode cX7_residual 1 = .ok (.aload_n 1, 1) := by decide +kernel
theorem dX7_residual_2 : decode cX7_residual 2 = .ok (.iload_n 2, 1) := by decide +kernel
theorem dX7_residual_3 : decode cX7_residual 3 = .ok (.iconst 1, 1) := by decide +kernel
theorem dX7_residual_4 : decode cX7_residual 4 = .ok (.invokevirtual 273, 3) := by decide +kernel
theorem dX7_residual_7 : decode cX7_residual 7 = .ok (.istore_n 3, 1) := by decide +kernel
theorem dX7_residual_8 : decode cX7_residual 8 = .ok (.aload_n 0, 1) := by decide +kernel
theorem dX7_residual_9 : decode cX7_residual 9 = .ok (.aload_n 1, 1) := by decide +kernel
theorem dX7_residual_10 : decode cX7_residual 10 = .ok (.iload_n 2, 1) := by decide +kernel
theorem dX7_residual_11 : decode cX7_residual 11 = .ok (.iconst 0, 1) := by decide +kernel
theorem dX7_residual_12 : decode cX7_residual 12 = .ok (.invokevirtual 273, 3) := by decide +kernel
theorem dX7_residual_15 : decode cX7_residual 15 = .ok (.istore 4, 2) := by decide +kernel
theorem dX7_residual_17 : decode cX7_residual 17 = .ok (.iconst 0, 1) := by decide +kernel
theorem dX7_residual_18 : decode cX7_residual 18 = .ok (.istore 5, 2) := by decide +kernel
theorem dX7_residual_20 : decode cX7_residual 20 = .ok (.iload_n 2, 1) := by decide +kernel
theorem dX7_residual_21 : decode cX7_residual 21 = .ok (.invokestatic 284, 3) := by decide +kernel
theorem dX7_residual_24 : decode cX7_residual 24 = .ok (.istore 6, 2) := by decide +kernel
theorem dX7_residual_26 : decode cX7_residual 26 = .ok (.iload 6, 2) := by decide +kernel
theorem dX7_residual_28 : decode cX7_residual 28 = .ok (.iload_n 2, 1) := by decide +kernel
theorem dX7_residual_29 : decode cX7_residual 29 = .ok (.invokestatic 287, 3) := by decide +kernel
theorem dX7_residual_32 : decode cX7_residual 32 = .ok (.if_icmp .gt 55, 3) := by decide +kernel
theorem dX7_residual_35 : decode cX7_residual 35 = .ok (.aload_n 1, 1) := by decide +kernel
theorem dX7_residual_36 : decode cX7_residual 36 = .ok (.iload 6, 2) := by decide +kernel
theorem dX7_residual_38 : decode cX7_residual 38 = .ok (.invokevirtual 179, 3) := by decide +kernel
theorem dX7_residual_41 : decode cX7_residual 41 = .ok (.ifCond .eq 40, 3) := by decide +kernel
theorem dX7_residual_44 : decode cX7_residual 44 = .ok (.iload 5, 2) := by decide +kernel
theorem dX7_residual_46 : decode cX7_residual 46 = .ok (.aload_n 0, 1) := by decide +kernel
theorem dX7_residual_47 : decode cX7_residual 47 = .ok (.aload_n 1, 1) := by decide +kernel
theorem dX7_residual_48 : decode cX7_residual 48 = .ok (.iload 6, 2) := by decide +kernel
theorem dX7_residual_50 : decode cX7_residual 50 = .ok (.iconst 1, 1) := by decide +kernel
theorem dX7_residual_51 : decode cX7_residual 51 = .ok (.invokevirtual 247, 3) := by decide +kernel
theorem dX7_residual_54 : decode cX7_residual 54 = .ok (.iload_n 3, 1) := by decide +kernel
theorem dX7_residual_55 : decode cX7_residual 55 = .ok (.isub, 1) := by decide +kernel
theorem dX7_residual_56 : decode cX7_residual 56 = .ok (.invokestatic 325, 3) := by decide +kernel
theorem dX7_residual_59 : decode cX7_residual 59 = .ok (.iadd, 1) := by decide +kernel
theorem dX7_residual_60 : decode cX7_residual 60 = .ok (.istore 5, 2) := by decide +kernel
theorem dX7_residual_62 : decode cX7_residual 62 = .ok (.iload 5, 2) := by decide +kernel
theorem dX7_residual_64 : decode cX7_residual 64 = .ok (.aload_n 0, 1) := by decide +kernel
theorem dX7_residual_65 : decode cX7_residual 65 = .ok (.aload_n 1, 1) := by decide +kernel
theorem dX7_residual_66 : decode cX7_residual 66 = .ok (.iload 6, 2) := by decide +kernel
theorem dX7_residual_68 : decode cX7_residual 68 = .ok (.iconst 0, 1) := by decide +kernel
theorem dX7_residual_69 : decode cX7_residual 69 = .ok (.invokevirtual 247, 3) := by decide +kernel
theorem dX7_residual_72 : decode cX7_residual 72 = .ok (.iload 4, 2) := by decide +kernel
theorem dX7_residual_74 : decode cX7_residual 74 = .ok (.isub, 1) := by decide +kernel
theorem dX7_residual_75 : decode cX7_residual 75 = .ok (.invokestatic 325, 3) := by decide +kernel
theorem dX7_residual_78 : decode cX7_residual 78 = .ok (.iadd, 1) := by decide +kernel
theorem dX7_residual_79 : decode cX7_residual 79 = .ok (.istore 5, 2) := by decide +kernel
theorem dX7_residual_81 : decode cX7_residual 81 = .ok (.iinc 6 1, 3) := by decide +kernel
theorem dX7_residual_84 : decode cX7_residual 84 = .ok (.goto (-58), 3) := by decide +kernel
theorem dX7_residual_87 : decode cX7_residual 87 = .ok (.iload 5, 2) := by decide +kernel
theorem dX7_residual_89 : decode cX7_residual 89 = .ok (.ireturn, 1) := by decide +kernel
theorem dX7_sharedBy_0 : decode cX7_sharedBy 0 = .ok (.aload_n 1, 1) := by decide +kernel
theorem dX7_sharedBy_1 : decode cX7_sharedBy 1 = .ok (.aload_n 2, 1) := by decide +kernel
theorem dX7_sharedBy_2 : decode cX7_sharedBy 2 = .ok (.invokevirtual 328, 3) := by decide +kernel
theorem dX7_sharedBy_5 : decode cX7_sharedBy 5 = .ok (.istore 4, 2) := by decide +kernel
theorem dX7_sharedBy_7 : decode cX7_sharedBy 7 = .ok (.iload_n 3, 1) := by decide +kernel
theorem dX7_sharedBy_8 : decode cX7_sharedBy 8 = .ok (.invokestatic 284, 3) := by decide +kernel
theorem dX7_sharedBy_11 : decode cX7_sharedBy 11 = .ok (.istore 5, 2) := by decide +kernel
theorem dX7_sharedBy_13 : decode cX7_sharedBy 13 = .ok (.iload 5, 2) := by decide +kernel
theorem dX7_sharedBy_15 : decode cX7_sharedBy 15 = .ok (.iload_n 3, 1) := by decide +kernel
theorem dX7_sharedBy_16 : decode cX7_sharedBy 16 = .ok (.invokestatic 287, 3) := by decide +kernel
theorem dX7_sharedBy_19 : decode cX7_sharedBy 19 = .ok (.if_icmp .gt 53, 3) := by decide +kernel
theorem dX7_sharedBy_22 : decode cX7_sharedBy 22 = .ok (.aload_n 0, 1) := by decide +kernel
theorem dX7_sharedBy_23 : decode cX7_sharedBy 23 = .ok (.aload_n 1, 1) := by decide +kernel
theorem dX7_sharedBy_24 : decode cX7_sharedBy 24 = .ok (.aload_n 2, 1) := by decide +kernel
theorem dX7_sharedBy_25 : decode cX7_sharedBy 25 = .ok (.iload 5, 2) := by decide +kernel
theorem dX7_sharedBy_27 : decode cX7_sharedBy 27 = .ok (.invokevirtual 331, 3) := by decide +kernel
theorem dX7_sharedBy_30 : decode cX7_sharedBy 30 = .ok (.ifCond .eq 6, 3) := by decide +kernel
theorem dX7_sharedBy_33 : decode cX7_sharedBy 33 = .ok (.iinc 4 1, 3) := by decide +kernel
theorem dX7_sharedBy_36 : decode cX7_sharedBy 36 = .ok (.aload_n 1, 1) := by decide +kernel
theorem dX7_sharedBy_37 : decode cX7_sharedBy 37 = .ok (.getfield 143, 3) := by decide +kernel
theorem dX7_sharedBy_40 : decode cX7_sharedBy 40 = .ok (.iload 5, 2) := by decide +kernel
theorem dX7_sharedBy_42 : decode cX7_sharedBy 42 = .ok (.iaload, 1) := by decide +kernel
theorem dX7_sharedBy_43 : decode cX7_sharedBy 43 = .ok (.aload_n 2, 1) := by decide +kernel
theorem dX7_sharedBy_44 : decode cX7_sharedBy 44 = .ok (.getfield 143, 3) := by decide +kernel
theorem dX7_sharedBy_47 : decode cX7_sharedBy 47 = .ok (.iload 5, 2) := by decide +kernel
theorem dX7_sharedBy_49 : decode cX7_sharedBy 49 = .ok (.iaload, 1) := by decide +kernel
theorem dX7_sharedBy_50 : decode cX7_sharedBy 50 = .ok (.if_icmp .ne 16, 3) := by decide +kernel
theorem dX7_sharedBy_53 : decode cX7_sharedBy 53 = .ok (.aload_n 0, 1) := by decide +kernel
theorem dX7_sharedBy_54 : decode cX7_sharedBy 54 = .ok (.aload_n 1, 1) := by decide +kernel
theorem dX7_sharedBy_55 : decode cX7_sharedBy 55 = .ok (.iload 5, 2) := by decide +kernel
theorem dX7_sharedBy_57 : decode cX7_sharedBy 57 = .ok (.invokevirtual 290, 3) := by decide +kernel
theorem dX7_sharedBy_60 : decode cX7_sharedBy 60 = .ok (.ifCond .ne 6, 3) := by decide +kernel
theorem dX7_sharedBy_63 : decode cX7_sharedBy 63 = .ok (.iinc 4 1, 3) := by decide +kernel
theorem dX7_sharedBy_66 : decode cX7_sharedBy 66 = .ok (.iinc 5 1, 3) := by decide +kernel
theorem dX7_sharedBy_69 : decode cX7_sharedBy 69 = .ok (.goto (-56), 3) := by decide +kernel
theorem dX7_sharedBy_72 : decode cX7_sharedBy 72 = .ok (.iload 4, 2) := by decide +kernel
theorem dX7_sharedBy_74 : decode cX7_sharedBy 74 = .ok (.ireturn, 1) := by decide +kernel
theorem dX7_shareError_0 : decode cX7_shareError 0 = .ok (.aload_n 1, 1) := by decide +kernel
theorem dX7_shareError_1 : decode cX7_shareError 1 = .ok (.iload_n 3, 1) := by decide +kernel
theorem dX7_shareError_2 : decode cX7_shareError 2 = .ok (.invokevirtual 179, 3) := by decide +kernel
theorem dX7_shareError_5 : decode cX7_shareError 5 = .ok (.ifCond .eq 11, 3) := by decide +kernel
theorem dX7_shareError_8 : decode cX7_shareError 8 = .ok (.aload_n 2, 1) := by decide +kernel
theorem dX7_shareError_9 : decode cX7_shareError 9 = .ok (.iload_n 3, 1) := by decide +kernel
theorem dX7_shareError_10 : decode cX7_shareError 10 = .ok (.invokevirtual 179, 3) := by decide +kernel
theorem dX7_shareError_13 : decode cX7_shareError 13 = .ok (.ifCond .ne 5, 3) := by decide +kernel
theorem dX7_shareError_16 : decode cX7_shareError 16 = .ok (.iconst 0, 1) := by decide +kernel
theorem dX7_shareError_17 : decode cX7_shareError 17 = .ok (.ireturn, 1) := by decide +kernel
theorem dX7_shareError_18 : decode cX7_shareError 18 = .ok (.aload_n 1, 1) := by decide +kernel
theorem dX7_shareError_19 : decode cX7_shareError 19 = .ok (.getfield 182, 3) := by decide +kernel
theorem dX7_shareError_22 : decode cX7_shareError 22 = .ok (.iload_n 3, 1) := by decide +kernel
theorem dX7_shareError_23 : decode cX7_shareError 23 = .ok (.iaload, 1) := by decide +kernel
theorem dX7_shareError_24 : decode cX7_shareError 24 = .ok (.aload_n 2, 1) := by decide +kernel
theorem dX7_shareError_25 : decode cX7_shareError 25 = .ok (.getfield 182, 3) := by decide +kernel
theorem dX7_shareError_28 : decode cX7_shareError 28 = .ok (.iload_n 3, 1) := by decide +kernel
theorem dX7_shareError_29 : decode cX7_shareError 29 = .ok (.iaload, 1) := by decide +kernel
theorem dX7_shareError_30 : decode cX7_shareError 30 = .ok (.if_icmp .ne 22, 3) := by decide +kernel
theorem dX7_shareError_33 : decode cX7_shareError 33 = .ok (.aload_n 1, 1) := by decide +kernel
theorem dX7_shareError_34 : decode cX7_shareError 34 = .ok (.getfield 187, 3) := by decide +kernel
theorem dX7_shareError_37 : decode cX7_shareError 37 = .ok (.iload_n 3, 1) := by decide +kernel
theorem dX7_shareError_38 : decode cX7_shareError 38 = .ok (.iaload, 1) := by decide +kernel
theorem dX7_shareError_39 : decode cX7_shareError 39 = .ok (.aload_n 2, 1) := by decide +kernel
theorem dX7_shareError_40 : decode cX7_shareError 40 = .ok (.getfield 187, 3) := by decide +kernel
theorem dX7_shareError_43 : decode cX7_shareError 43 = .ok (.iload_n 3, 1) := by decide +kernel
theorem dX7_shareError_44 : decode cX7_shareError 44 = .ok (.iaload, 1) := by decide +kernel
theorem dX7_shareError_45 : decode cX7_shareError 45 = .ok (.if_icmp .ne 7, 3) := by decide +kernel
theorem dX7_shareError_48 : decode cX7_shareError 48 = .ok (.iconst 1, 1) := by decide +kernel
theorem dX7_shareError_49 : decode cX7_shareError 49 = .ok (.goto 4, 3) := by decide +kernel
theorem dX7_shareError_52 : decode cX7_shareError 52 = .ok (.iconst 0, 1) := by decide +kernel
theorem dX7_shareError_53 : decode cX7_shareError 53 = .ok (.istore 4, 2) := by decide +kernel
theorem dX7_shareError_55 : decode cX7_shareError 55 = .ok (.iload 4, 2) := by decide +kernel
theorem dX7_shareError_57 : decode cX7_shareError 57 = .ok (.ifCond .eq 27, 3) := by decide +kernel
theorem dX7_shareError_60 : decode cX7_shareError 60 = .ok (.aload_n 0, 1) := by decide +kernel
theorem dX7_shareError_61 : decode cX7_shareError 61 = .ok (.aload_n 1, 1) := by decide +kernel
theorem dX7_shareError_62 : decode cX7_shareError 62 = .ok (.iload_n 3, 1) := by decide +kernel
theorem dX7_shareError_63 : decode cX7_shareError 63 = .ok (.iconst 1, 1) := by decide +kernel
theorem dX7_shareError_64 : decode cX7_shareError 64 = .ok (.invokevirtual 247, 3) := by decide +kernel
theorem dX7_shareError_67 : decode cX7_shareError 67 = .ok (.ifCond .ne 13, 3) := by decide +kernel
theorem dX7_shareError_70 : decode cX7_shareError 70 = .ok (.aload_n 0, 1) := by decide +kernel
theorem dX7_shareError_71 : decode cX7_shareError 71 = .ok (.aload_n 1, 1) := by decide +kernel
theorem dX7_shareError_72 : decode cX7_shareError 72 = .ok (.iload_n 3, 1) := by decide +kernel
theorem dX7_shareError_73 : decode cX7_shareError 73 = .ok (.iconst 0, 1) := by decide +kernel
theorem dX7_shareError_74 : decode cX7_shareError 74 = .ok (.invokevirtual 247, 3) := by decide +kernel
theorem dX7_shareError_77 : decode cX7_shareError 77 = .ok (.ifCond .eq 7, 3) := by decide +kernel
theorem dX7_shareError_80 : decode cX7_shareError 80 = .ok (.iconst 1, 1) := by decide +kernel
theorem dX7_shareError_81 : decode cX7_shareError 81 = .ok (.goto 4, 3) := by decide +kernel
theorem dX7_shareError_84 : decode cX7_shareError 84 = .ok (.iconst 0, 1) := by decide +kernel
theorem dX7_shareError_85 : decode cX7_shareError 85 = .ok (.ireturn, 1) := by decide +kernel
theorem dX7_chartsWith_0 : decode cX7_chartsWith 0 = .ok (.iconst 0, 1) := by decide +kernel
theorem dX7_chartsWith_1 : decode cX7_chartsWith 1 = .ok (.istore_n 2, 1) := by decide +kernel
theorem dX7_chartsWith_2 : decode cX7_chartsWith 2 = .ok (.iconst 0, 1) := by decide +kernel
theorem dX7_chartsWith_3 : decode cX7_chartsWith 3 = .ok (.istore_n 3, 1) := by decide +kernel
theorem dX7_chartsWith_4 : decode cX7_chartsWith 4 = .ok (.iload_n 3, 1) := by decide +kernel
theorem dX7_chartsWith_5 : decode cX7_chartsWith 5 = .ok (.aload_n 0, 1) := by decide +kernel
theorem dX7_chartsWith_6 : decode cX7_chartsWith 6 = .ok (.getfield 56, 3) := by decide +kernel
theorem dX7_chartsWith_9 : decode cX7_chartsWith 9 = .ok (.if_icmp .ge 26, 3) := by decide +kernel
theorem dX7_chartsWith_12 : decode cX7_chartsWith 12 = .ok (.aload_n 0, 1) := by decide +kernel
theorem dX7_chartsWith_13 : decode cX7_chartsWith 13 = .ok (.getfield 45, 3) := by decide +kernel
theorem dX7_chartsWith_16 : decode cX7_chartsWith 16 = .ok (.iload_n 3, 1) := by decide +kernel
theorem dX7_chartsWith_17 : decode cX7_chartsWith 17 = .ok (.aaload, 1) := by decide +kernel
theorem dX7_chartsWith_18 : decode cX7_chartsWith 18 = .ok (.getfield 221, 3) := by decide +kernel
theorem dX7_chartsWith_21 : decode cX7_chartsWith 21 = .ok (.iload_n 1, 1) := by decide +kernel
theorem dX7_chartsWith_22 : decode cX7_chartsWith 22 = .ok (.baload, 1) := by decide +kernel
theorem dX7_chartsWith_23 : decode cX7_chartsWith 23 = .ok (.ifCond .eq 6, 3) := by decide +kernel
theorem dX7_chartsWith_26 : decode cX7_chartsWith 26 = .ok (.iinc 2 1, 3) := by decide +kernel
theorem dX7_chartsWith_29 : decode cX7_chartsWith 29 = .ok (.iinc 3 1, 3) := by decide +kernel
theorem dX7_chartsWith_32 : decode cX7_chartsWith 32 = .ok (.goto (-28), 3) := by decide +kernel
theorem dX7_chartsWith_35 : decode cX7_chartsWith 35 = .ok (.iload_n 2, 1) := by decide +kernel
theorem dX7_chartsWith_36 : decode cX7_chartsWith 36 = .ok (.ireturn, 1) := by decide +kernel
theorem dX7_highestChartWith_0 : decode cX7_highestChartWith 0 = .ok (.iconst (-1), 1) := by decide +kernel
theorem dX7_highestChartWith_1 : decode cX7_highestChartWith 1 = .ok (.istore_n 2, 1) := by decide +kernel
theorem dX7_highestChartWith_2 : decode cX7_highestChartWith 2 = .ok (.iconst 0, 1) := by decide +kernel
theorem dX7_highestChartWith_3 : decode cX7_highestChartWith 3 = .ok (.istore_n 3, 1) := by decide +kernel
theorem dX7_highestChartWith_4 : decode cX7_highestChartWith 4 = .ok (.iload_n 3, 1) := by decide +kernel
theorem dX7_highestChartWith_5 : decode cX7_highestChartWith 5 = .ok (.aload_n 0, 1) := by decide +kernel
theorem dX7_highestChartWith_6 : decode cX7_highestChartWith 6 = .ok (.getfield 56, 3) := by decide +kernel
theorem dX7_highestChartWith_9 : decode cX7_highestChartWith 9 = .ok (.if_icmp .ge 25, 3) := by decide +kernel
theorem dX7_highestChartWith_12 : decode cX7_highestChartWith 12 = .ok (.aload_n 0, 1) := by decide +kernel
theorem dX7_highestChartWith_13 : decode cX7_highestChartWith 13 = .ok (.getfield 45, 3) := by decide +kernel
theorem dX7_highestChartWith_16 : decode cX7_highestChartWith 16 = .ok (.iload_n 3, 1) := by decide +kernel
theorem dX7_highestChartWith_17 : decode cX7_highestChartWith 17 = .ok (.aaload, 1) := by decide +kernel
theorem dX7_highestChartWith_18 : decode cX7_highestChartWith 18 = .ok (.getfield 221, 3) := by decide +kernel
theorem dX7_highestChartWith_21 : decode cX7_highestChartWith 21 = .ok (.iload_n 1, 1) := by decide +kernel
theorem dX7_highestChartWith_22 : decode cX7_highestChartWith 22 = .ok (.baload, 1) := by decide +kernel
theorem dX7_highestChartWith_23 : decode cX7_highestChartWith 23 = .ok (.ifCond .eq 5, 3) := by decide +kernel
theorem dX7_highestChartWith_26 : decode cX7_highestChartWith 26 = .ok (.iload_n 3, 1) := by decide +kernel
theorem dX7_highestChartWith_27 : decode cX7_highestChartWith 27 = .ok (.istore_n 2, 1) := by decide +kernel
theorem dX7_highestChartWith_28 : decode cX7_highestChartWith 28 = .ok (.iinc 3 1, 3) := by decide +kernel
theorem dX7_highestChartWith_31 : decode cX7_highestChartWith 31 = .ok (.goto (-27), 3) := by decide +kernel
theorem dX7_highestChartWith_34 : decode cX7_highestChartWith 34 = .ok (.iload_n 2, 1) := by decide +kernel
theorem dX7_highestChartWith_35 : decode cX7_highestChartWith 35 = .ok (.ireturn, 1) := by decide +kernel
theorem dJ9_abs_0f7a4_0 : decode cJ9_abs_0f7a4 0 = .ok (.iload_n 0, 1) := by decide +kernel
theorem dJ9_abs_0f7a4_1 : decode cJ9_abs_0f7a4 1 = .ok (.ifCond .ge 8, 3) := by decide +kernel
theorem dJ9_abs_0f7a4_4 : decode cJ9_abs_0f7a4 4 = .ok (.iload_n 0, 1) := by decide +kernel
theorem dJ9_abs_0f7a4_5 : decode cJ9_abs_0f7a4 5 = .ok (.ineg, 1) := by decide +kernel
theorem dJ9_abs_0f7a4_6 : decode cJ9_abs_0f7a4 6 = .ok (.goto 4, 3) := by decide +kernel
theorem dJ9_abs_0f7a4_9 : decode cJ9_abs_0f7a4 9 = .ok (.iload_n 0, 1) := by decide +kernel
theorem dJ9_abs_0f7a4_10 : decode cJ9_abs_0f7a4 10 = .ok (.ireturn, 1) := by decide +kernel
theorem dJ9_max_7cf53_0 : decode cJ9_max_7cf53 0 = .ok (.iload_n 0, 1) := by decide +kernel
theorem dJ9_max_7cf53_1 : decode cJ9_max_7cf53 1 = .ok (.iload_n 1, 1) := by decide +kernel
theorem dJ9_max_7cf53_2 : decode cJ9_max_7cf53 2 = .ok (.if_icmp .lt 7, 3) := by decide +kernel
theorem dJ9_max_7cf53_5 : decode cJ9_max_7cf53 5 = .ok (.iload_n 0, 1) := by decide +kernel
theorem dJ9_max_7cf53_6 : decode cJ9_max_7cf53 6 = .ok (.goto 4, 3) := by decide +kernel
theorem dJ9_max_7cf53_9 : decode cJ9_max_7cf53 9 = .ok (.iload_n 1, 1) := by decide +kernel
theorem dJ9_max_7cf53_10 : decode cJ9_max_7cf53 10 = .ok (.ireturn, 1) := by decide +kernel
end
section
theorem dX8_init_0 : decode cX8_init 0 = .ok (.aload_n 0, 1) := by decide +kernel
theorem dX8_init_1 : decode cX8_init 1 = .ok (.invokespecial 1, 3) := by decide +kernel
theorem dX8_init_4 : decode cX8_init 4 = .ok (.aload_n 0, 1) := by decide +kernel
theorem dX8_init_5 : decode cX8_init 5 = .ok (.bipush 24, 2) := by decide +kernel
theorem dX8_init_7 : decode cX8_init 7 = .ok (.newarray .int, 2) := by decide +kernel
theorem dX8_init_9 : decode cX8_init 9 = .ok (.putfield 7, 3) := by decide +kernel
theorem dX8_init_12 : decode cX8_init 12 = .ok (.aload_n 0, 1) := by decide +kernel
theorem dX8_init_13 : decode cX8_init 13 = .ok (.bipush 24, 2) := by decide +kernel
theorem dX8_init_15 : decode cX8_init 15 = .ok (.newarray .int, 2) := by decide +kernel
theorem dX8_init_17 : decode cX8_init 17 = .ok (.putfield 13, 3) := by decide +kernel
theorem dX8_init_20 : decode cX8_init 20 = .ok (.aload_n 0, 1) := by decide +kernel
theorem dX8_init_21 : decode cX8_init 21 = .ok (.bipush 24, 2) := by decide +kernel
theorem dX8_init_23 : decode cX8_init 23 = .ok (.newarray .int, 2) := by decide +kernel
theorem dX8_init_25 : decode cX8_init 25 = .ok (.putfield 16, 3) := by decide +kernel
theorem dX8_init_28 : decode cX8_init 28 = .ok (.aload_n 0, 1) := by decide +kernel
theorem dX8_init_29 : decode cX8_init 29 = .ok (.bipush 24, 2) := by decide +kernel
theorem dX8_init_31 : decode cX8_init 31 = .ok (.newarray .int, 2) := by decide +kernel
theorem dX8_init_33 : decode cX8_init 33 = .ok (.putfield 19, 3) := by decide +kernel
theorem dX8_init_36 : decode cX8_init 36 = .ok (.aload_n 0, 1) := by decide +kernel
theorem dX8_init_37 : decode cX8_init 37 = .ok (.bipush 6, 2) := by decide +kernel
theorem dX8_init_39 : decode cX8_init 39 = .ok (.newarray .int, 2) := by decide +kernel
theorem dX8_init_41 : decode cX8_init 41 = .ok (.putfield 22, 3) := by decide +kernel
theorem dX8_init_44 : decode cX8_init 44 = .ok (.aload_n 0, 1) := by decide +kernel
theorem dX8_init_45 : decode cX8_init 45 = .ok (.bipush 6, 2) := by decide +kernel
theorem dX8_init_47 : decode cX8_init 47 = .ok (.newarray .int, 2) := by decide +kernel
theorem dX8_init_49 : decode cX8_init 49 = .ok (.putfield 25, 3) := by decide +kernel
theorem dX8_init_52 : decode cX8_init 52 = .ok (.aload_n 0, 1) := by decide +kernel
theorem dX8_init_53 : decode cX8_init 53 = .ok (.bipush 60, 2) := by decide +kernel
theorem dX8_init_55 : decode cX8_init 55 = .ok (.newarray .int, 2) := by decide +kernel
theorem dX8_init_57 : decode cX8_init 57 = .ok (.putfield 28, 3) := by decide +kernel
theorem dX8_init_60 : decode cX8_init 60 = .ok (.aload_n 0, 1) := by decide +kernel
theorem dX8_init_61 : decode cX8_init 61 = .ok (.bipush 60, 2) := by decide +kernel
theorem dX8_init_63 : decode cX8_init 63 = .ok (.newarray .int, 2) := by decide +kernel
theorem dX8_init_65 : decode cX8_init 65 = .ok (.putfield 31, 3) := by decide +kernel
theorem dX8_init_68 : decode cX8_init 68 = .ok (.aload_n 0, 1) := by decide +kernel
theorem dX8_init_69 : decode cX8_init 69 = .ok (.bipush 60, 2) := by decide +kernel
theorem dX8_init_71 : decode cX8_init 71 = .ok (.newarray .int, 2) := by decide +kernel
theorem dX8_init_73 : decode cX8_init 73 = .ok (.putfield 34, 3) := by decide +kernel
theorem dX8_init_76 : decode cX8_init 76 = .ok (.aload_n 0, 1) := by decide +kernel
theorem dX8_init_77 : decode cX8_init 77 = .ok (.bipush 60, 2) := by decide +kernel
theorem dX8_init_79 : decode cX8_init 79 = .ok (.newarray .int, 2) := by decide +kernel
theorem dX8_init_81 : decode cX8_init 81 = .ok (.putfield 37, 3) := by decide +kernel
theorem dX8_init_84 : decode cX8_init 84 = .ok (.aload_n 0, 1) := by decide +kernel
theorem dX8_init_85 : decode cX8_init 85 = .ok (.bipush 12, 2) := by decide +kernel
theorem dX8_init_87 : decode cX8_init 87 = .ok (.newarray .int, 2) := by decide +kernel
theorem dX8_init_89 : decode cX8_init 89 = .ok (.putfield 40, 3) := by decide +kernel
theorem dX8_init_92 : decode cX8_init 92 = .ok (.aload_n 0, 1) := by decide +kernel
theorem dX8_init_93 : decode cX8_init 93 = .ok (.bipush 36, 2) := by decide +kernel
theorem dX8_init_95 : decode cX8_init 95 = .ok (.newarray .int, 2) := by decide +kernel
theorem dX8_init_97 : decode cX8_init 97 = .ok (.putfield 43, 3) := by decide +kernel
theorem dX8_init_100 : decode cX8_init 100 = .ok (.aload_n 0, 1) := by decide +kernel
theorem dX8_init_101 : decode cX8_init 101 = .ok (.sipush 288, 3) := by decide +kernel
theorem dX8_init_104 : decode cX8_init 104 = .ok (.newarray .boolean, 2) := by decide +kernel
theorem dX8_init_106 : decode cX8_init 106 = .ok (.putfield 46, 3) := by decide +kernel
theorem dX8_init_109 : decode cX8_init 109 = .ok (.aload_n 0, 1) := by decide +kernel
theorem dX8_init_110 : decode cX8_init 110 = .ok (.sipush 288, 3) := by decide +kernel
theorem dX8_init_113 : decode cX8_init 113 = .ok (.newarray .int, 2) := by decide +kernel
theorem dX8_init_115 : decode cX8_init 115 = .ok (.putfield 50, 3) := by decide +kernel
theorem dX8_init_118 : decode cX8_init 118 = .ok (.aload_n 0, 1) := by decide +kernel
theorem dX8_init_119 : decode cX8_init 119 = .ok (.sipush 288, 3) := by decide +kernel
theorem dX8_init_122 : decode cX8_init 122 = .ok (.newarray .int, 2) := by decide +kernel
theorem dX8_init_124 : decode cX8_init 124 = .ok (.putfield 53, 3) := by decide +kernel
theorem dX8_init_127 : decode cX8_init 127 = .ok (.aload_n 0, 1) := by decide +kernel
theorem dX8_init_128 : decode cX8_init 128 = .ok (.sipush 288, 3) := by decide +kernel
theorem dX8_init_131 : decode cX8_init 131 = .ok (.newarray .int, 2) := by decide +kernel
theorem dX8_init_133 : decode cX8_init 133 = .ok (.putfield 56, 3) := by decide +kernel
theorem dX8_init_136 : decode cX8_init 136 = .ok (.aload_n 0, 1) := by decide +kernel
theorem dX8_init_137 : decode cX8_init 137 = .ok (.sipush 288, 3) := by decide +kernel
theorem dX8_init_140 : decode cX8_init 140 = .ok (.newarray .int, 2) := by decide +kernel
theorem dX8_init_142 : decode cX8_init 142 = .ok (.putfield 59, 3) := by decide +kernel
theorem dX8_init_145 : decode cX8_init 145 = .ok (.aload_n 0, 1) := by decide +kernel
theorem dX8_init_146 : decode cX8_init 146 = .ok (.iconst 4, 1) := by decide +kernel
theorem dX8_init_147 : decode cX8_init 147 = .ok (.newarray .int, 2) := by decide +kernel
theorem dX8_init_149 : decode cX8_init 149 = .ok (.putfield 62, 3) := by decide +kernel
theorem dX8_init_152 : decode cX8_init 152 = .ok (.aload_n 0, 1) := by decide +kernel
theorem dX8_init_153 : decode cX8_init 153 = .ok (.sipush 400, 3) := by decide +kernel
theorem dX8_init_156 : decode cX8_init 156 = .ok (.newarray .int, 2) := by decide +kernel
theorem dX8_init_158 : decode cX8_init 158 = .ok (.putfield 65, 3) := by decide +kernel
theorem dX8_init_161 : decode cX8_init 161 = .ok (.aload_n 0, 1) := by decide +kernel
theorem dX8_init_162 : decode cX8_init 162 = .ok (.bipush 20, 2) := by decide +kernel
theorem dX8_init_164 : decode cX8_init 164 = .ok (.newarray .int, 2) := by decide +kernel
theorem dX8_init_166 : decode cX8_init 166 = .ok (.putfield 68, 3) := by decide +kernel
theorem dX8_init_169 : decode cX8_init 169 = .ok (.aload_n 0, 1) := by decide +kernel
theorem dX8_init_170 : decode cX8_init 170 = .ok (.bipush 20, 2) := by decide +kernel
theorem dX8_init_172 : decode cX8_init 172 = .ok (.newarray .int, 2) := by decide +kernel
theorem dX8_init_174 : decode cX8_init 174 = .ok (.putfield 71, 3) := by decide +kernel
theorem dX8_init_177 : decode cX8_init 177 = .ok (.aload_n 0, 1) := by decide +kernel
theorem dX8_init_178 : decode cX8_init 178 = .ok (.bipush 20, 2) := by decide +kernel
theorem dX8_init_180 : decode cX8_init 180 = .ok (.newarray .int, 2) := by decide +kernel
theorem dX8_init_182 : decode cX8_init 182 = .ok (.putfield 74, 3) := by decide +kernel
theorem dX8_init_185 : decode cX8_init 185 = .ok (.aload_n 0, 1) := by decide +kernel
theorem dX8_init_186 : decode cX8_init 186 = .ok (.sipush 240, 3) := by decide +kernel
theorem dX8_init_189 : decode cX8_init 189 = .ok (.newarray .boolean, 2) := by decide +kernel
theorem dX8_init_191 : decode cX8_init 191 = .ok (.putfield 77, 3) := by decide +kernel
theorem dX8_init_194 : decode cX8_init 194 = .ok (.aload_n 0, 1) := by decide +kernel
theorem dX8_init_195 : decode cX8_init 195 = .ok (.bipush 24, 2) := by decide +kernel
theorem dX8_init_197 : decode cX8_init 197 = .ok (.newarray .boolean, 2) := by decide +kernel
theorem dX8_init_199 : decode cX8_init 199 = .ok (.putfield 80, 3) := by decide +kernel
theorem dX8_init_202 : decode cX8_init 202 = .ok (.aload_n 0, 1) := by decide +kernel
theorem dX8_init_203 : decode cX8_init 203 = .ok (.bipush 24, 2) := by decide +kernel
theorem dX8_init_205 : decode cX8_init 205 = .ok (.newarray .int, 2) := by decide +kernel
theorem dX8_init_207 : decode cX8_init 207 = .ok (.putfield 83, 3) := by decide +kernel
theorem dX8_init_210 : decode cX8_init 210 = .ok (.aload_n 0, 1) := by decide +kernel
theorem dX8_init_211 : decode cX8_init 211 = .ok (.bipush 24, 2) := by decide +kernel
theorem dX8_init_213 : decode cX8_init 213 = .ok (.newarray .int, 2) := by decide +kernel
theorem dX8_init_215 : decode cX8_init 215 = .ok (.putfield 86, 3) := by decide +kernel
theorem dX8_init_218 : decode cX8_init 218 = .ok (.aload_n 0, 1) := by decide +kernel
theorem dX8_init_219 : decode cX8_init 219 = .ok (.bipush 24, 2) := by decide +kernel
theorem dX8_init_221 : decode cX8_init 221 = .ok (.newarray .int, 2) := by decide +kernel
theorem dX8_init_223 : decode cX8_init 223 = .ok (.putfield 89, 3) := by decide +kernel
theorem dX8_init_226 : decode cX8_init 226 = .ok (.iconst 0, 1) := by decide +kernel
theorem dX8_init_227 : decode cX8_init 227 = .ok (.istore_n 1, 1) := by decide +kernel
theorem dX8_init_228 : decode cX8_init 228 = .ok (.iload_n 1, 1) := by decide +kernel
theorem dX8_init_229 : decode cX8_init 229 = .ok (.bipush 24, 2) := by decide +kernel
theorem dX8_init_231 : decode cX8_init 231 = .ok (.if_icmp .ge 27, 3) := by decide +kernel
theorem dX8_init_234 : decode cX8_init 234 = .ok (.aload_n 0, 1) := by decide +kernel
theorem dX8_init_235 : decode cX8_init 235 = .ok (.getfield 16, 3) := by decide +kernel
theorem dX8_init_238 : decode cX8_init 238 = .ok (.iload_n 1, 1) := by decide +kernel
theorem dX8_init_239 : decode cX8_init 239 = .ok (.iload_n 1, 1) := by decide +kernel
theorem dX8_init_240 : decode cX8_init 240 = .ok (.iconst 1, 1) := by decide +kernel
theorem dX8_init_241 : decode cX8_init 241 = .ok (.iadd, 1) := by decide +kernel
theorem dX8_init_242 : decode cX8_init 242 = .ok (.iastore, 1) := by decide +kernel
theorem dX8_init_243 : decode cX8_init 243 = .ok (.aload_n 0, 1) := by decide +kernel
theorem dX8_init_244 : decode cX8_init 244 = .ok (.getfield 19, 3) := by decide +kernel
theorem dX8_init_247 : decode cX8_init 247 = .ok (.iload_n 1, 1) := by decide +kernel
theorem dX8_init_248 : decode cX8_init 248 = .ok (.sipush 1000, 3) := by decide +kernel
theorem dX8_init_251 : decode cX8_init 251 = .ok (.iastore, 1) := by decide +kernel
theorem dX8_init_252 : decode cX8_init 252 = .ok (.iinc 1 1, 3) := by decide +kernel
theorem dX8_init_255 : decode cX8_init 255 = .ok (.goto (-27), 3) := by decide +kernel
theorem dX8_init_258 : decode cX8_init 258 = .ok (.iconst 0, 1) := by decide +kernel
theorem dX8_init_259 : decode cX8_init 259 = .ok (.istore_n 1, 1) := by decide +kernel
theorem dX8_init_260 : decode cX8_init 260 = .ok (.iload_n 1, 1) := by decide +kernel
theorem dX8_init_261 : decode cX8_init 261 = .ok (.iconst 4, 1) := by decide +kernel
theorem dX8_init_262 : decode cX8_init 262 = .ok (.if_icmp .ge 35, 3) := by decide +kernel
theorem dX8_init_265 : decode cX8_init 265 = .ok (.iconst 0, 1) := by decide +kernel
theorem dX8_init_266 : decode cX8_init 266 = .ok (.istore_n 2, 1) := by decide +kernel
theorem dX8_init_267 : decode cX8_init 267 = .ok (.iload_n 2, 1) := by decide +kernel
theorem dX8_init_268 : decode cX8_init 268 = .ok (.bipush 100, 2) := by decide +kernel
theorem dX8_init_270 : decode cX8_init 270 = .ok (.if_icmp .ge 21, 3) := by decide +kernel
theorem dX8_init_273 : decode cX8_init 273 = .ok (.aload_n 0, 1) := by decide +kernel
theorem dX8_init_274 : decode cX8_init 274 = .ok (.getfield 65, 3) := by decide +kernel
theorem dX8_init_277 : decode cX8_init 277 = .ok (.bipush 100, 2) := by decide +kernel
theorem dX8_init_279 : decode cX8_init 279 = .ok (.iload_n 1, 1) := by decide +kernel
theorem dX8_init_280 : decode cX8_init 280 = .ok (.imul, 1) := by decide +kernel
theorem dX8_init_281 : decode cX8_init 281 = .ok (.iload_n 2, 1) := by decide +kernel
theorem dX8_init_282 : decode cX8_init 282 = .ok (.iadd, 1) := by decide +kernel
theorem dX8_init_283 : decode cX8_init 283 = .ok (.iload_n 2, 1) := by decide +kernel
theorem dX8_init_284 : decode cX8_init 284 = .ok (.iastore, 1) := by decide +kernel
theorem dX8_init_285 : decode cX8_init 285 = .ok (.iinc 2 1, 3) := by decide +kernel
theorem dX8_init_288 : decode cX8_init 288 = .ok (.goto (-21), 3) := by decide +kernel
theorem dX8_init_291 : decode cX8_init 291 = .ok (.iinc 1 1, 3) := by decide +kernel
theorem dX8_init_294 : decode cX8_init 294 = .ok (.goto (-34), 3) := by decide +kernel
theorem dX8_init_297 : decode cX8_init 297 = .ok (.return_, 1) := by decide +kernel
theorem dX8_thrown_0 : decode cX8_thrown 0 = .ok (.aload_n 0, 1) := by decide +kernel
theorem dX8_thrown_1 : decode cX8_thrown 1 = .ok (.getfield 92, 3) := by decide +kernel
theorem dX8_thrown_4 : decode cX8_thrown 4 = .ok (.ireturn, 1) := by decide +kernel
theorem dX8_isIn_0 : decode cX8_isIn 0 = .ok (.iload_n 0, 1) := by decide +kernel
theorem dX8_isIn_1 : decode cX8_isIn 1 = .ok (.iload_n 1, 1) := by decide +kernel
theorem dX8_isIn_2 : decode cX8_isIn 2 = .ok (.if_icmp .lt 12, 3) := by decide +kernel
theorem dX8_isIn_5 : decode cX8_isIn 5 = .ok (.iload_n 0, 1) := by decide +kernel
theorem dX8_isIn_6 : decode cX8_isIn 6 = .ok (.iload_n 2, 1) := by decide +kernel
theorem dX8_isIn_7 : decode cX8_isIn 7 = .ok (.if_icmp .gt 7, 3) := by decide +kernel
theorem dX8_isIn_10 : decode cX8_isIn 10 = .ok (.iconst 1, 1) := by decide +kernel
theorem dX8_isIn_11 : decode cX8_isIn 11 = .ok (.goto 4, 3) := by decide +kernel
theorem dX8_isIn_14 : decode cX8_isIn 14 = .ok (.iconst 0, 1) := by decide +kernel
theorem dX8_isIn_15 : decode cX8_isIn 15 = .ok (.ireturn, 1) := by decide +kernel
theorem dX8_isPoint_0 : decode cX8_isPoint 0 = .ok (.iload_n 0, 1) := by decide +kernel
theorem dX8_isPoint_1 : decode cX8_isPoint 1 = .ok (.iconst 0, 1) := by decide +kernel
theorem dX8_isPoint_2 : decode cX8_isPoint 2 = .ok (.bipush 23, 2) := by decide +kernel
theorem dX8_isPoint_4 : decode cX8_isPoint 4 = .ok (.invokestatic 96, 3) := by decide +kernel
theorem dX8_isPoint_7 : decode cX8_isPoint 7 = .ok (.ireturn, 1) := by decide +kernel
theorem dX8_isBasin_0 : decode cX8_isBasin 0 = .ok (.iload_n 0, 1) := by decide +kernel
theorem dX8_isBasin_1 : decode cX8_isBasin 1 = .ok (.iconst 0, 1) := by decide +kernel
theorem dX8_isBasin_2 : decode cX8_isBasin 2 = .ok (.iconst 2, 1) := by decide +kernel
theorem dX8_isBasin_3 : decode cX8_isBasin 3 = .ok (.invokestatic 96, 3) := by decide +kernel
theorem dX8_isBasin_6 : decode cX8_isBasin 6 = .ok (.ireturn, 1) := by decide +kernel
theorem dX8_isName_0 : decode cX8_isName 0 = .ok (.iload_n 0, 1) := by decide +kernel
theorem dX8_isName_1 : decode cX8_isName 1 = .ok (.iconst 1, 1) := by decide +kernel
theorem dX8_isName_2 : decode cX8_isName 2 = .ok (.bipush 99, 2) := by decide +kernel
theorem dX8_isName_4 : decode cX8_isName 4 = .ok (.invokestatic 96, 3) := by decide +kernel
theorem dX8_isName_7 : decode cX8_isName 7 = .ok (.ireturn, 1) := by decide +kernel
theorem dX8_isYear_0 : decode cX8_isYear 0 = .ok (.iload_n 0, 1) := by decide +kernel
theorem dX8_isYear_1 : decode cX8_isYear 1 = .ok (.iconst 0, 1) := by decide +kernel
theorem dX8_isYear_2 : decode cX8_isYear 2 = .ok (.sipush 2000, 3) := by decide +kernel
theorem dX8_isYear_5 : decode cX8_isYear 5 = .ok (.invokestatic 96, 3) := by decide +kernel
theorem dX8_isYear_8 : decode cX8_isYear 8 = .ok (.ireturn, 1) := by decide +kernel
theorem dX8_isChart_0 : decode cX8_isChart 0 = .ok (.iload_n 1, 1) := by decide +kernel
theorem dX8_isChart_1 : decode cX8_isChart 1 = .ok (.iconst 0, 1) := by decide +kernel
theorem dX8_isChart_2 : decode cX8_isChart 2 = .ok (.aload_n 0, 1) := by decide +kernel
theorem dX8_isChart_3 : decode cX8_isChart 3 = .ok (.getfield 100, 3) := by decide +kernel
theorem dX8_isChart_6 : decode cX8_isChart 6 = .ok (.iconst 1, 1) := by decide +kernel
theorem dX8_isChart_7 : decode cX8_isChart 7 = .ok (.isub, 1) := by decide +kernel
theorem dX8_isChart_8 : decode cX8_isChart 8 = .ok (.invokestatic 96, 3) := by decide +kernel
theorem dX8_isChart_11 : decode cX8_isChart 11 = .ok (.ireturn, 1) := by decide +kernel
theorem dX8_isIsland_0 : decode cX8_isIsland 0 = .ok (.iload_n 1, 1) := by decide +kernel
theorem dX8_isIsland_1 : decode cX8_isIsland 1 = .ok (.iconst 0, 1) := by decide +kernel
theorem dX8_isIsland_2 : decode cX8_isIsland 2 = .ok (.aload_n 0, 1) := by decide +kernel
theorem dX8_isIsland_3 : decode cX8_isIsland 3 = .ok (.getfield 103, 3) := by decide +kernel
theorem dX8_isIsland_6 : decode cX8_isIsland 6 = .ok (.iconst 1, 1) := by decide +kernel
theorem dX8_isIsland_7 : decode cX8_isIsland 7 = .ok (.isub, 1) := by decide +kernel
theorem dX8_isIsland_8 : decode cX8_isIsland 8 = .ok (.invokestatic 96, 3) := by decide +kernel
theorem dX8_isIsland_11 : decode cX8_isIsland 11 = .ok (.ireturn, 1) := by decide +kernel
theorem dX8_coast_0 : decode cX8_coast 0 = .ok (.iload_n 2, 1) := by decide +kernel
theorem dX8_coast_1 : decode cX8_coast 1 = .ok (.sipush (-500), 3) := by decide +kernel
theorem dX8_coast_4 : decode cX8_coast 4 = .ok (.sipush 500, 3) := by decide +kernel
theorem dX8_coast_7 : decode cX8_coast 7 = .ok (.invokestatic 96, 3) := by decide +kernel
theorem dX8_coast_10 : decode cX8_coast 10 = .ok (.ifCond .eq 36, 3) := by decide +kernel
theorem dX8_coast_13 : decode cX8_coast 13 = .ok (.iload_n 3, 1) := by decide +kernel
theorem dX8_coast_14 : decode cX8_coast 14 = .ok (.sipush (-500), 3) := by decide +kernel
theorem dX8_coast_17 : decode cX8_coast 17 = .ok (.sipush 500, 3) := by decide +kernel
theorem dX8_coast_20 : decode cX8_coast 20 = .ok (.invokestatic 96, 3) := by decide +kernel
theorem dX8_coast_23 : decode cX8_coast 23 = .ok (.ifCond .eq 23, 3) := by decide +kernel
theorem dX8_coast_26 : decode cX8_coast 26 = .ok (.iload 4, 2) := by decide +kernel
theorem dX8_coast_28 : decode cX8_coast 28 = .ok (.invokestatic 106, 3) := by decide +kernel
theorem dX8_coast_31 : decode cX8_coast 31 = .ok (.ifCond .eq 15, 3) := by decide +kernel
theorem dX8_coast_34 : decode cX8_coast 34 = .ok (.iload 5, 2) := by decide +kernel
theorem dX8_coast_36 : decode cX8_coast 36 = .ok (.invokestatic 110, 3) := by decide +kernel
theorem dX8_coast_39 : decode cX8_coast 39 = .ok (.ifCond .eq 7, 3) := by decide +kernel
theorem dX8_coast_42 : decode cX8_coast 42 = .ok (.iconst 1, 1) := by decide +kernel
theorem dX8_coast_43 : decode cX8_coast 43 = .ok (.goto 4, 3) := by decide +kernel
theorem dX8_coast_46 : decode cX8_coast 46 = .ok (.iconst 0, 1) := by decide +kernel
theorem dX8_coast_47 : decode cX8_coast 47 = .ok (.istore 6, 2) := by decide +kernel
theorem dX8_coast_49 : decode cX8_coast 49 = .ok (.aload_n 0, 1) := by decide +kernel
theorem dX8_coast_50 : decode cX8_coast 50 = .ok (.iload_n 1, 1) := by decide +kernel
theorem dX8_coast_51 : decode cX8_coast 51 = .ok (.invokestatic 113, 3) := by decide +kernel
theorem dX8_coast_54 : decode cX8_coast 54 = .ok (.ifCond .ne 7, 3) := by decide +kernel
theorem dX8_coast_57 : decode cX8_coast 57 = .ok (.iconst 1, 1) := by decide +kernel
theorem dX8_coast_58 : decode cX8_coast 58 = .ok (.goto 24, 3) := by decide +kernel
theorem dX8_coast_61 : decode cX8_coast 61 = .ok (.iload 6, 2) := by decide +kernel
theorem dX8_coast_63 : decode cX8_coast 63 = .ok (.ifCond .ne 7, 3) := by decide +kernel
theorem dX8_coast_66 : decode cX8_coast 66 = .ok (.iconst 2, 1) := by decide +kernel
theorem dX8_coast_67 : decode cX8_coast 67 = .ok (.goto 15, 3) := by decide +kernel
theorem dX8_coast_70 : decode cX8_coast 70 = .ok (.aload_n 0, 1) := by decide +kernel
theorem dX8_coast_71 : decode cX8_coast 71 = .ok (.getfield 116, 3) := by decide +kernel
theorem dX8_coast_74 : decode cX8_coast 74 = .ok (.ifCond .le 7, 3) := by decide +kernel
theorem dX8_coast_77 : decode cX8_coast 77 = .ok (.iconst 3, 1) := by decide +kernel
theorem dX8_coast_78 : decode cX8_coast 78 = .ok (.goto 4, 3) := by decide +kernel
theorem dX8_coast_81 : decode cX8_coast 81 = .ok (.iconst 0, 1) := by decide +kernel
theorem dX8_coast_82 : decode cX8_coast 82 = .ok (.putfield 92, 3) := by decide +kernel
theorem dX8_coast_85 : decode cX8_coast 85 = .ok (.aload_n 0, 1) := by decide +kernel
theorem dX8_coast_86 : decode cX8_coast 86 = .ok (.getfield 92, 3) := by decide +kernel
theorem dX8_coast_89 : decode cX8_coast 89 = .ok (.ifCond .ne 33, 3) := by decide +kernel
theorem dX8_coast_92 : decode cX8_coast 92 = .ok (.aload_n 0, 1) := by decide +kernel
theorem dX8_coast_93 : decode cX8_coast 93 = .ok (.getfield 7, 3) := by decide +kernel
theorem dX8_coast_96 : decode cX8_coast 96 = .ok (.iload_n 1, 1) := by decide +kernel
theorem dX8_coast_97 : decode cX8_coast 97 = .ok (.iload_n 2, 1) := by decide +kernel
theorem dX8_coast_98 : decode cX8_coast 98 = .ok (.iastore, 1) := by decide +kernel
theorem dX8_coast_99 : decode cX8_coast 99 = .ok (.aload_n 0, 1) := by decide +kernel
theorem dX8_coast_100 : decode cX8_coast 100 = .ok (.getfield 13, 3) := by decide +kernel
theorem dX8_coast_103 : decode cX8_coast 103 = .ok (.iload_n 1, 1) := by decide +kernel
theorem dX8_coast_104 : decode cX8_coast 104 = .ok (.iload_n 3, 1) := by decide +kernel
theorem dX8_coast_105 : decode cX8_coast 105 = .ok (.iastore, 1) := by decide +kernel
theorem dX8_coast_106 : decode cX8_coast 106 = .ok (.aload_n 0, 1) := by decide +kernel
theorem dX8_coast_107 : decode cX8_coast 107 = .ok (.getfield 16, 3) := by decide +kernel
theorem dX8_coast_110 : decode cX8_coast 110 = .ok (.iload_n 1, 1) := by decide +kernel
theorem dX8_coast_111 : decode cX8_coast 111 = .ok (.iload 4, 2) := by decide +kernel
theorem dX8_coast_113 : decode cX8_coast 113 = .ok (.iastore, 1) := by decide +kernel
theorem dX8_coast_114 : decode cX8_coast 114 = .ok (.aload_n 0, 1) := by decide +kernel
theorem dX8_coast_115 : decode cX8_coast 115 = .ok (.getfield 19, 3) := by decide +kernel
theorem dX8_coast_118 : decode cX8_coast 118 = .ok (.iload_n 1, 1) := by decide +kernel
theorem dX8_coast_119 : decode cX8_coast 119 = .ok (.iload 5, 2) := by decide +kernel
theorem dX8_coast_121 : decode cX8_coast 121 = .ok (.iastore, 1) := by decide +kernel
theorem dX8_coast_122 : decode cX8_coast 122 = .ok (.return_, 1) := by decide +kernel
theorem dX8_pilot_0 : decode cX8_pilot 0 = .ok (.iload_n 1, 1) := by decide +kernel
theorem dX8_pilot_1 : decode cX8_pilot 1 = .ok (.bipush (-30), 2) := by decide +kernel
theorem dX8_pilot_3 : decode cX8_pilot 3 = .ok (.bipush 30, 2) := by decide +kernel
theorem dX8_pilot_5 : decode cX8_pilot 5 = .ok (.invokestatic 96, 3) := by decide +kernel
theorem dX8_pilot_8 : decode cX8_pilot 8 = .ok (.ifCond .eq 18, 3) := by decide +kernel
theorem dX8_pilot_11 : decode cX8_pilot 11 = .ok (.iload_n 2, 1) := by decide +kernel
theorem dX8_pilot_12 : decode cX8_pilot 12 = .ok (.bipush (-30), 2) := by decide +kernel
theorem dX8_pilot_14 : decode cX8_pilot 14 = .ok (.bipush 30, 2) := by decide +kernel
theorem dX8_pilot_16 : decode cX8_pilot 16 = .ok (.invokestatic 96, 3) := by decide +kernel
theorem dX8_pilot_19 : decode cX8_pilot 19 = .ok (.ifCond .eq 7, 3) := by decide +kernel
theorem dX8_pilot_22 : decode cX8_pilot 22 = .ok (.iconst 1, 1) := by decide +kernel
theorem dX8_pilot_23 : decode cX8_pilot 23 = .ok (.goto 4, 3) := by decide +kernel
theorem dX8_pilot_26 : decode cX8_pilot 26 = .ok (.iconst 0, 1) := by decide +kernel
theorem dX8_pilot_27 : decode cX8_pilot 27 = .ok (.istore_n 3, 1) := by decide +kernel
theorem dX8_pilot_28 : decode cX8_pilot 28 = .ok (.aload_n 0, 1) := by decide +kernel
theorem dX8_pilot_29 : decode cX8_pilot 29 = .ok (.iload_n 3, 1) := by decide +kernel
theorem dX8_pilot_30 : decode cX8_pilot 30 = .ok (.ifCond .ne 7, 3) := by decide +kernel
theorem dX8_pilot_33 : decode cX8_pilot 33 = .ok (.iconst 1, 1) := by decide +kernel
theorem dX8_pilot_34 : decode cX8_pilot 34 = .ok (.goto 17, 3) := by decide +kernel
theorem dX8_pilot_37 : decode cX8_pilot 37 = .ok (.aload_n 0, 1) := by decide +kernel
theorem dX8_pilot_38 : decode cX8_pilot 38 = .ok (.getfield 119, 3) := by decide +kernel
theorem dX8_pilot_41 : decode cX8_pilot 41 = .ok (.bipush 6, 2) := by decide +kernel
theorem dX8_pilot_43 : decode cX8_pilot 43 = .ok (.if_icmp .ne 7, 3) := by decide +kernel
theorem dX8_pilot_46 : decode cX8_pilot 46 = .ok (.iconst 2, 1) := by decide +kernel
theorem dX8_pilot_47 : decode cX8_pilot 47 = .ok (.goto 4, 3) := by decide +kernel
theorem dX8_pilot_50 : decode cX8_pilot 50 = .ok (.iconst 0, 1) := by decide +kernel
theorem dX8_pilot_51 : decode cX8_pilot 51 = .ok (.putfield 92, 3) := by decide +kernel
theorem dX8_pilot_54 : decode cX8_pilot 54 = .ok (.aload_n 0, 1) := by decide +kernel
theorem dX8_pilot_55 : decode cX8_pilot 55 = .ok (.getfield 92, 3) := by decide +kernel
theorem dX8_pilot_58 : decode cX8_pilot 58 = .ok (.ifCond .le 5, 3) := by decide +kernel
theorem dX8_pilot_61 : decode cX8_pilot 61 = .ok (.iconst 0, 1) := by decide +kernel
theorem dX8_pilot_62 : decode cX8_pilot 62 = .ok (.ireturn, 1) := by decide +kernel
theorem dX8_pilot_63 : decode cX8_pilot 63 = .ok (.aload_n 0, 1) := by decide +kernel
theorem dX8_pilot_64 : decode cX8_pilot 64 = .ok (.getfield 22, 3) := by decide +kernel
theorem dX8_pilot_67 : decode cX8_pilot 67 = .ok (.aload_n 0, 1) := by decide +kernel
theorem dX8_pilot_68 : decode cX8_pilot 68 = .ok (.getfield 119, 3) := by decide +kernel
theorem dX8_pilot_71 : decode cX8_pilot 71 = .ok (.iload_n 1, 1) := by decide +kernel
theorem dX8_pilot_72 : decode cX8_pilot 72 = .ok (.iastore, 1) := by decide +kernel
theorem dX8_pilot_73 : decode cX8_pilot 73 = .ok (.aload_n 0, 1) := by decide +kernel
theorem dX8_pilot_74 : decode cX8_pilot 74 = .ok (.getfield 25, 3) := by decide +kernel
theorem dX8_pilot_77 : decode cX8_pilot 77 = .ok (.aload_n 0, 1) := by decide +kernel
theorem dX8_pilot_78 : decode cX8_pilot 78 = .ok (.getfield 119, 3) := by decide +kernel
theorem dX8_pilot_81 : decode cX8_pilot 81 = .ok (.iload_n 2, 1) := by decide +kernel
theorem dX8_pilot_82 : decode cX8_pilot 82 = .ok (.iastore, 1) := by decide +kernel
theorem dX8_pilot_83 : decode cX8_pilot 83 = .ok (.aload_n 0, 1) := by decide +kernel
theorem dX8_pilot_84 : decode cX8_pilot 84 = .ok (.dup, 1) := by decide +kernel
theorem dX8_pilot_85 : decode cX8_pilot 85 = .ok (.getfield 119, 3) := by decide +kernel
theorem dX8_pilot_88 : decode cX8_pilot 88 = .ok (.iconst 1, 1) := by decide +kernel
theorem dX8_pilot_89 : decode cX8_pilot 89 = .ok (.iadd, 1) := by decide +kernel
theorem dX8_pilot_90 : decode cX8_pilot 90 = .ok (.putfield 119, 3) := by decide +kernel
theorem dX8_pilot_93 : decode cX8_pilot 93 = .ok (.aload_n 0, 1) := by decide +kernel
theorem dX8_pilot_94 : decode cX8_pilot 94 = .ok (.getfield 119, 3) := by decide +kernel
theorem dX8_pilot_97 : decode cX8_pilot 97 = .ok (.iconst 1, 1) := by decide +kernel
theorem dX8_pilot_98 : decode cX8_pilot 98 = .ok (.isub, 1) := by decide +kernel
theorem dX8_pilot_99 : decode cX8_pilot 99 = .ok (.ireturn, 1) := by decide +kernel
theorem dX8_report_0 : decode cX8_report 0 = .ok (.iload_n 1, 1) := by decide +kernel
theorem dX8_report_1 : decode cX8_report 1 = .ok (.iconst 0, 1) := by decide +kernel
theorem dX8_report_2 : decode cX8_report 2 = .ok (.aload_n 0, 1) := by decide +kernel
theorem dX8_report_3 : decode cX8_report 3 = .ok (.getfield 119, 3) := by decide +kernel
theorem dX8_report_6 : decode cX8_report 6 = .ok (.iconst 1, 1) := by decide +kernel
theorem dX8_report_7 : decode cX8_report 7 = .ok (.isub, 1) := by decide +kernel
theorem dX8_report_8 : decode cX8_report 8 = .ok (.invokestatic 96, 3) := by decide +kernel
theorem dX8_report_11 : decode cX8_report 11 = .ok (.ifCond .eq 21, 3) := by decide +kernel
theorem dX8_report_14 : decode cX8_report 14 = .ok (.iload_n 2, 1) := by decide +kernel
theorem dX8_report_15 : decode cX8_report 15 = .ok (.invokestatic 113, 3) := by decide +kernel
theorem dX8_report_18 : decode cX8_report 18 = .ok (.ifCond .eq 14, 3) := by decide +kernel
theorem dX8_report_21 : decode cX8_report 21 = .ok (.iload_n 3, 1) := by decide +kernel
theorem dX8_report_22 : decode cX8_report 22 = .ok (.invokestatic 113, 3) := by decide +kernel
theorem dX8_report_25 : decode cX8_report 25 = .ok (.ifCond .eq 7, 3) := by decide +kernel
theorem dX8_report_28 : decode cX8_report 28 = .ok (.iconst 1, 1) := by decide +kernel
theorem dX8_report_29 : decode cX8_report 29 = .ok (.goto 4, 3) := by decide +kernel
theorem dX8_report_32 : decode cX8_report 32 = .ok (.iconst 0, 1) := by decide +kernel
theorem dX8_report_33 : decode cX8_report 33 = .ok (.istore 4, 2) := by decide +kernel
theorem dX8_report_35 : decode cX8_report 35 = .ok (.aload_n 0, 1) := by decide +kernel
theorem dX8_report_36 : decode cX8_report 36 = .ok (.iload 4, 2) := by decide +kernel
theorem dX8_report_38 : decode cX8_report 38 = .ok (.ifCond .ne 7, 3) := by decide +kernel
theorem dX8_report_41 : decode cX8_report 41 = .ok (.iconst 1, 1) := by decide +kernel
theorem dX8_report_42 : decode cX8_report 42 = .ok (.goto 26, 3) := by decide +kernel
theorem dX8_report_45 : decode cX8_report 45 = .ok (.iload_n 2, 1) := by decide +kernel
theorem dX8_report_46 : decode cX8_report 46 = .ok (.iload_n 3, 1) := by decide +kernel
theorem dX8_report_47 : decode cX8_report 47 = .ok (.if_icmp .ne 7, 3) := by decide +kernel
theorem dX8_report_50 : decode cX8_report 50 = .ok (.iconst 2, 1) := by decide +kernel
theorem dX8_report_51 : decode cX8_report 51 = .ok (.goto 17, 3) := by decide +kernel
theorem dX8_report_54 : decode cX8_report 54 = .ok (.aload_n 0, 1) := by decide +kernel
theorem dX8_report_55 : decode cX8_report 55 = .ok (.getfield 116, 3) := by decide +kernel
theorem dX8_report_58 : decode cX8_report 58 = .ok (.bipush 60, 2) := by decide +kernel
theorem dX8_report_60 : decode cX8_report 60 = .ok (.if_icmp .ne 7, 3) := by decide +kernel
theorem dX8_report_63 : decode cX8_report 63 = .ok (.iconst 3, 1) := by decide +kernel
theorem dX8_report_64 : decode cX8_report 64 = .ok (.goto 4, 3) := by decide +kernel
theorem dX8_report_67 : decode cX8_report 67 = .ok (.iconst 0, 1) := by decide +kernel
theorem dX8_report_68 : decode cX8_report 68 = .ok (.putfield 92, 3) := by decide +kernel
theorem dX8_report_71 : decode cX8_report 71 = .ok (.aload_n 0, 1) := by decide +kernel
theorem dX8_report_72 : decode cX8_report 72 = .ok (.getfield 92, 3) := by decide +kernel
theorem dX8_report_75 : decode cX8_report 75 = .ok (.ifCond .le 5, 3) := by decide +kernel
theorem dX8_report_78 : decode cX8_report 78 = .ok (.iconst 0, 1) := by decide +kernel
theorem dX8_report_79 : decode cX8_report 79 = .ok (.ireturn, 1) := by decide +kernel
theorem dX8_report_80 : decode cX8_report 80 = .ok (.aload_n 0, 1) := by decide +kernel
theorem dX8_report_81 : decode cX8_report 81 = .ok (.getfield 7, 3) := by decide +kernel
theorem dX8_report_84 : decode cX8_report 84 = .ok (.iload_n 3, 1) := by decide +kernel
theorem dX8_report_85 : decode cX8_report 85 = .ok (.iaload, 1) := by decide +kernel
theorem dX8_report_86 : decode cX8_report 86 = .ok (.aload_n 0, 1) := by decide +kernel
theorem dX8_report_87 : decode cX8_report 87 = .ok (.getfield 7, 3) := by decide +kernel
theorem dX8_report_90 : decode cX8_report 90 = .ok (.iload_n 2, 1) := by decide +kernel
theorem dX8_report_91 : decode cX8_report 91 = .ok (.iaload, 1) := by decide +kernel
theorem dX8_report_92 : decode cX8_report 92 = .ok (.isub, 1) := by decide +kernel
theorem dX8_report_93 : decode cX8_report 93 = .ok (.istore 5, 2) := by decide +kernel
theorem dX8_report_95 : decode cX8_report 95 = .ok (.aload_n 0, 1) := by decide +kernel
theorem dX8_report_96 : decode cX8_report 96 = .ok (.getfield 13, 3) := by decide +kernel
theorem dX8_report_99 : decode cX8_report 99 = .ok (.iload_n 3, 1) := by decide +kernel
theorem dX8_report_100 : decode cX8_report 100 = .ok (.iaload, 1) := by decide +kernel
theorem dX8_report_101 : decode cX8_report 101 = .ok (.aload_n 0, 1) := by decide +kernel
theorem dX8_report_102 : decode cX8_report 102 = .ok (.getfield 13, 3) := by decide +kernel
theorem dX8_report_105 : decode cX8_report 105 = .ok (.iload_n 2, 1) := by decide +kernel
theorem dX8_report_106 : decode cX8_report 106 = .ok (.iaload, 1) := by decide +kernel
theorem dX8_report_107 : decode cX8_report 107 = .ok (.isub, 1) := by decide +kernel
theorem dX8_report_108 : decode cX8_report 108 = .ok (.istore 6, 2) := by decide +kernel
theorem dX8_report_110 : decode cX8_report 110 = .ok (.iload 5, 2) := by decide +kernel
theorem dX8_report_112 : decode cX8_report 112 = .ok (.iload 6, 2) := by decide +kernel
theorem dX8_report_114 : decode cX8_report 114 = .ok (.aload_n 0, 1) := by decide +kernel
theorem dX8_report_115 : decode cX8_report 115 = .ok (.getfield 22, 3) := by decide +kernel
theorem dX8_report_118 : decode cX8_report 118 = .ok (.iload_n 1, 1) := by decide +kernel
theorem dX8_report_119 : decode cX8_report 119 = .ok (.iaload, 1) := by decide +kernel
theorem dX8_report_120 : decode cX8_report 120 = .ok (.imul, 1) := by decide +kernel
theorem dX8_report_121 : decode cX8_report 121 = .ok (.bipush 100, 2) := by decide +kernel
theorem dX8_report_123 : decode cX8_report 123 = .ok (.idiv, 1) := by decide +kernel
theorem dX8_report_124 : decode cX8_report 124 = .ok (.isub, 1) := by decide +kernel
theorem dX8_report_125 : decode cX8_report 125 = .ok (.istore 7, 2) := by decide +kernel
theorem dX8_report_127 : decode cX8_report 127 = .ok (.iload 6, 2) := by decide +kernel
theorem dX8_report_129 : decode cX8_report 129 = .ok (.iload 5, 2) := by decide +kernel
theorem dX8_report_131 : decode cX8_report 131 = .ok (.aload_n 0, 1) := by decide +kernel
theorem dX8_report_132 : decode cX8_report 132 = .ok (.getfield 22, 3) := by decide +kernel
theorem dX8_report_135 : decode cX8_report 135 = .ok (.iload_n 1, 1) := by decide +kernel
theorem dX8_report_136 : decode cX8_report 136 = .ok (.iaload, 1) := by decide +kernel
theorem dX8_report_137 : decode cX8_report 137 = .ok (.imul, 1) := by decide +kernel
theorem dX8_report_138 : decode cX8_report 138 = .ok (.bipush 100, 2) := by decide +kernel
theorem dX8_report_140 : decode cX8_report 140 = .ok (.idiv, 1) := by decide +kernel
theorem dX8_report_141 : decode cX8_report 141 = .ok (.iadd, 1) := by decide +kernel
theorem dX8_report_142 : decode cX8_report 142 = .ok (.istore 8, 2) := by decide +kernel
theorem dX8_report_144 : decode cX8_report 144 = .ok (.aload_n 0, 1) := by decide +kernel
theorem dX8_report_145 : decode cX8_report 145 = .ok (.getfield 28, 3) := by decide +kernel
theorem dX8_report_148 : decode cX8_report 148 = .ok (.aload_n 0, 1) := by decide +kernel
theorem dX8_report_149 : decode cX8_report 149 = .ok (.getfield 116, 3) := by decide +kernel
theorem dX8_report_152 : decode cX8_report 152 = .ok (.iload_n 2, 1) := by decide +kernel
theorem dX8_report_153 : decode cX8_report 153 = .ok (.iastore, 1) := by decide +kernel
theorem dX8_report_154 : decode cX8_report 154 = .ok (.aload_n 0, 1) := by decide +kernel
theorem dX8_report_155 : decode cX8_report 155 = .ok (.getfield 31, 3) := by decide +kernel
theorem dX8_report_158 : decode cX8_report 158 = .ok (.aload_n 0, 1) := by decide +kernel
theorem dX8_report_159 : decode cX8_report 159 = .ok (.getfield 116, 3) := by decide +kernel
theorem dX8_report_162 : decode cX8_report 162 = .ok (.iload_n 3, 1) := by decide +kernel
theorem dX8_report_163 : decode cX8_report 163 = .ok (.iastore, 1) := by decide +kernel
theorem dX8_report_164 : decode cX8_report 164 = .ok (.aload_n 0, 1) := by decide +kernel
theorem dX8_report_165 : decode cX8_report 165 = .ok (.getfield 34, 3) := by decide +kernel
theorem dX8_report_168 : decode cX8_report 168 = .ok (.aload_n 0, 1) := by decide +kernel
theorem dX8_report_169 : decode cX8_report 169 = .ok (.getfield 116, 3) := by decide +kernel
theorem dX8_report_172 : decode cX8_report 172 = .ok (.iload 7, 2) := by decide +kernel
theorem dX8_report_174 : decode cX8_report 174 = .ok (.iload 7, 2) := by decide +kernel
theorem dX8_report_176 : decode cX8_report 176 = .ok (.aload_n 0, 1) := by decide +kernel
theorem dX8_report_177 : decode cX8_report 177 = .ok (.getfield 25, 3) := by decide +kernel
theorem dX8_report_180 : decode cX8_report 180 = .ok (.iload_n 1, 1) := by decide +kernel
theorem dX8_report_181 : decode cX8_report 181 = .ok (.iaload, 1) := by decide +kernel
theorem dX8_report_182 : decode cX8_report 182 = .ok (.imul, 1) := by decide +kernel
theorem dX8_report_183 : decode cX8_report 183 = .ok (.bipush 100, 2) := by decide +kernel
theorem dX8_report_185 : decode cX8_report 185 = .ok (.idiv, 1) := by decide +kernel
theorem dX8_report_186 : decode cX8_report 186 = .ok (.iadd, 1) := by decide +kernel
theorem dX8_report_187 : decode cX8_report 187 = .ok (.iastore, 1) := by decide +kernel
theorem dX8_report_188 : decode cX8_report 188 = .ok (.aload_n 0, 1) := by decide +kernel
theorem dX8_report_189 : decode cX8_report 189 = .ok (.getfield 37, 3) := by decide +kernel
theorem dX8_report_192 : decode cX8_report 192 = .ok (.aload_n 0, 1) := by decide +kernel
theorem dX8_report_193 : decode cX8_report 193 = .ok (.getfield 116, 3) := by decide +kernel
theorem dX8_report_196 : decode cX8_report 196 = .ok (.iload 8, 2) := by decide +kernel
theorem dX8_report_198 : decode cX8_report 198 = .ok (.iload 8, 2) := by decide +kernel
theorem dX8_report_200 : decode cX8_report 200 = .ok (.aload_n 0, 1) := by decide +kernel
theorem dX8_report_201 : decode cX8_report 201 = .ok (.getfield 25, 3) := by decide +kernel
theorem dX8_report_204 : decode cX8_report 204 = .ok (.iload_n 1, 1) := by decide +kernel
theorem dX8_report_205 : decode cX8_report 205 = .ok (.iaload, 1) := by decide +kernel
theorem dX8_report_206 : decode cX8_report 206 = .ok (.imul, 1) := by decide +kernel
theorem dX8_report_207 : decode cX8_report 207 = .ok (.bipush 100, 2) := by decide +kernel
theorem dX8_report_209 : decode cX8_report 209 = .ok (.idiv, 1) := by decide +kernel
theorem dX8_report_210 : decode cX8_report 210 = .ok (.iadd, 1) := by decide +kernel
theorem dX8_report_211 : decode cX8_report 211 = .ok (.iastore, 1) := by decide +kernel
theorem dX8_report_212 : decode cX8_report 212 = .ok (.aload_n 0, 1) := by decide +kernel
theorem dX8_report_213 : decode cX8_report 213 = .ok (.dup, 1) := by decide +kernel
theorem dX8_report_214 : decode cX8_report 214 = .ok (.getfield 116, 3) := by decide +kernel
theorem dX8_report_217 : decode cX8_report 217 = .ok (.iconst 1, 1) := by decide +kernel
theorem dX8_report_218 : decode cX8_report 218 = .ok (.iadd, 1) := by decide +kernel
theorem dX8_report_219 : decode cX8_report 219 = .ok (.putfield 116, 3) := by decide +kernel
theorem dX8_report_222 : decode cX8_report 222 = .ok (.aload_n 0, 1) := by decide +kernel
theorem dX8_report_223 : decode cX8_report 223 = .ok (.getfield 116, 3) := by decide +kernel
theorem dX8_report_226 : decode cX8_report 226 = .ok (.iconst 1, 1) := by decide +kernel
theorem dX8_report_227 : decode cX8_report 227 = .ok (.isub, 1) := by decide +kernel
theorem dX8_report_228 : decode cX8_report 228 = .ok (.ireturn, 1) := by decide +kernel
theorem dX8_spot_0 : decode cX8_spot 0 = .ok (.bipush 24, 2) := by decide +kernel
theorem dX8_spot_2 : decode cX8_spot 2 = .ok (.iload_n 0, 1) := by decide +kernel
theorem dX8_spot_3 : decode cX8_spot 3 = .ok (.imul, 1) := by decide +kernel
theorem dX8_spot_4 : decode cX8_spot 4 = .ok (.iload_n 1, 1) := by decide +kernel
theorem dX8_spot_5 : decode cX8_spot 5 = .ok (.iadd, 1) := by decide +kernel
theorem dX8_spot_6 : decode cX8_spot 6 = .ok (.ireturn, 1) := by decide +kernel
theorem dX8_gives_0 : decode cX8_gives 0 = .ok (.aload_n 0, 1) := by decide +kernel
theorem dX8_gives_1 : decode cX8_gives 1 = .ok (.getfield 80, 3) := by decide +kernel
theorem dX8_gives_4 : decode cX8_gives 4 = .ok (.iload_n 1, 1) := by decide +kernel
theorem dX8_gives_5 : decode cX8_gives 5 = .ok (.baload, 1) := by decide +kernel
theorem dX8_gives_6 : decode cX8_gives 6 = .ok (.ifCond .ne 71, 3) := by decide +kernel
theorem dX8_gives_9 : decode cX8_gives 9 = .ok (.aload_n 0, 1) := by decide +kernel
theorem dX8_gives_10 : decode cX8_gives 10 = .ok (.getfield 80, 3) := by decide +kernel
theorem dX8_gives_13 : decode cX8_gives 13 = .ok (.iload_n 2, 1) := by decide +kernel
theorem dX8_gives_14 : decode cX8_gives 14 = .ok (.baload, 1) := by decide +kernel
theorem dX8_gives_15 : decode cX8_gives 15 = .ok (.ifCond .eq 62, 3) := by decide +kernel
theorem dX8_gives_18 : decode cX8_gives 18 = .ok (.aload_n 0, 1) := by decide +kernel
theorem dX8_gives_19 : decode cX8_gives 19 = .ok (.getfield 83, 3) := by decide +kernel
theorem dX8_gives_22 : decode cX8_gives 22 = .ok (.iload_n 1, 1) := by decide +kernel
theorem dX8_gives_23 : decode cX8_gives 23 = .ok (.dup2, 1) := by decide +kernel
theorem dX8_gives_24 : decode cX8_gives 24 = .ok (.iaload, 1) := by decide +kernel
theorem dX8_gives_25 : decode cX8_gives 25 = .ok (.aload_n 0, 1) := by decide +kernel
theorem dX8_gives_26 : decode cX8_gives 26 = .ok (.getfield 50, 3) := by decide +kernel
theorem dX8_gives_29 : decode cX8_gives 29 = .ok (.aload_n 0, 1) := by decide +kernel
theorem dX8_gives_30 : decode cX8_gives 30 = .ok (.getfield 100, 3) := by decide +kernel
theorem dX8_gives_33 : decode cX8_gives 33 = .ok (.iload_n 2, 1) := by decide +kernel
theorem dX8_gives_34 : decode cX8_gives 34 = .ok (.invokestatic 122, 3) := by decide +kernel
theorem dX8_gives_37 : decode cX8_gives 37 = .ok (.iaload, 1) := by decide +kernel
theorem dX8_gives_38 : decode cX8_gives 38 = .ok (.iload_n 3, 1) := by decide +kernel
theorem dX8_gives_39 : decode cX8_gives 39 = .ok (.iadd, 1) := by decide +kernel
theorem dX8_gives_40 : decode cX8_gives 40 = .ok (.iadd, 1) := by decide +kernel
theorem dX8_gives_41 : decode cX8_gives 41 = .ok (.iastore, 1) := by decide +kernel
theorem dX8_gives_42 : decode cX8_gives 42 = .ok (.aload_n 0, 1) := by decide +kernel
theorem dX8_gives_43 : decode cX8_gives 43 = .ok (.getfield 86, 3) := by decide +kernel
theorem dX8_gives_46 : decode cX8_gives 46 = .ok (.iload_n 1, 1) := by decide +kernel
theorem dX8_gives_47 : decode cX8_gives 47 = .ok (.dup2, 1) := by decide +kernel
theorem dX8_gives_48 : decode cX8_gives 48 = .ok (.iaload, 1) := by decide +kernel
theorem dX8_gives_49 : decode cX8_gives 49 = .ok (.aload_n 0, 1) := by decide +kernel
theorem dX8_gives_50 : decode cX8_gives 50 = .ok (.getfield 53, 3) := by decide +kernel
theorem dX8_gives_53 : decode cX8_gives 53 = .ok (.aload_n 0, 1) := by decide +kernel
theorem dX8_gives_54 : decode cX8_gives 54 = .ok (.getfield 100, 3) := by decide +kernel
theorem dX8_gives_57 : decode cX8_gives 57 = .ok (.iload_n 2, 1) := by decide +kernel
theorem dX8_gives_58 : decode cX8_gives 58 = .ok (.invokestatic 122, 3) := by decide +kernel
theorem dX8_gives_61 : decode cX8_gives 61 = .ok (.iaload, 1) := by decide +kernel
theorem dX8_gives_62 : decode cX8_gives 62 = .ok (.iload 4, 2) := by decide +kernel
theorem dX8_gives_64 : decode cX8_gives 64 = .ok (.iadd, 1) := by decide +kernel
theorem dX8_gives_65 : decode cX8_gives 65 = .ok (.iadd, 1) := by decide +kernel
theorem dX8_gives_66 : decode cX8_gives 66 = .ok (.iastore, 1) := by decide +kernel
theorem dX8_gives_67 : decode cX8_gives 67 = .ok (.aload_n 0, 1) := by decide +kernel
theorem dX8_gives_68 : decode cX8_gives 68 = .ok (.getfield 89, 3) := by decide +kernel
theorem dX8_gives_71 : decode cX8_gives 71 = .ok (.iload_n 1, 1) := by decide +kernel
theorem dX8_gives_72 : decode cX8_gives 72 = .ok (.dup2, 1) := by decide +kernel
theorem dX8_gives_73 : decode cX8_gives 73 = .ok (.iaload, 1) := by decide +kernel
theorem dX8_gives_74 : decode cX8_gives 74 = .ok (.iconst 1, 1) := by decide +kernel
theorem dX8_gives_75 : decode cX8_gives 75 = .ok (.iadd, 1) := by decide +kernel
theorem dX8_gives_76 : decode cX8_gives 76 = .ok (.iastore, 1) := by decide +kernel
theorem dX8_gives_77 : decode cX8_gives 77 = .ok (.return_, 1) := by decide +kernel
theorem dX8_rounds_0 : decode cX8_rounds 0 = .ok (.iconst 0, 1) := by decide +kernel
theorem dX8_rounds_1 : decode cX8_rounds 1 = .ok (.istore_n 2, 1) := by decide +kernel
theorem dX8_rounds_2 : decode cX8_rounds 2 = .ok (.iload_n 2, 1) := by decide +kernel
theorem dX8_rounds_3 : decode cX8_rounds 3 = .ok (.bipush 24, 2) := by decide +kernel
theorem dX8_rounds_5 : decode cX8_rounds 5 = .ok (.if_icmp .ge 49, 3) := by decide +kernel
theorem dX8_rounds_8 : decode cX8_rounds 8 = .ok (.aload_n 0, 1) := by decide +kernel
theorem dX8_rounds_9 : decode cX8_rounds 9 = .ok (.getfield 80, 3) := by decide +kernel
theorem dX8_rounds_12 : decode cX8_rounds 12 = .ok (.iload_n 2, 1) := by decide +kernel
theorem dX8_rounds_13 : decode cX8_rounds 13 = .ok (.aload_n 0, 1) := by decide +kernel
theorem dX8_rounds_14 : decode cX8_rounds 14 = .ok (.getfield 46, 3) := by decide +kernel
theorem dX8_rounds_17 : decode cX8_rounds 17 = .ok (.aload_n 0, 1) := by decide +kernel
theorem dX8_rounds_18 : decode cX8_rounds 18 = .ok (.getfield 100, 3) := by decide +kernel
theorem dX8_rounds_21 : decode cX8_rounds 21 = .ok (.iload_n 2, 1) := by decide +kernel
theorem dX8_rounds_22 : decode cX8_rounds 22 = .ok (.invokestatic 122, 3) := by decide +kernel
theorem dX8_rounds_25 : decode cX8_rounds 25 = .ok (.baload, 1) := by decide +kernel
theorem dX8_rounds_26 : decode cX8_rounds 26 = .ok (.bastore, 1) := by decide +kernel
theorem dX8_rounds_27 : decode cX8_rounds 27 = .ok (.aload_n 0, 1) := by decide +kernel
theorem dX8_rounds_28 : decode cX8_rounds 28 = .ok (.getfield 83, 3) := by decide +kernel
theorem dX8_rounds_31 : decode cX8_rounds 31 = .ok (.iload_n 2, 1) := by decide +kernel
theorem dX8_rounds_32 : decode cX8_rounds 32 = .ok (.iconst 0, 1) := by decide +kernel
theorem dX8_rounds_33 : decode cX8_rounds 33 = .ok (.iastore, 1) := by decide +kernel
theorem dX8_rounds_34 : decode cX8_rounds 34 = .ok (.aload_n 0, 1) := by decide +kernel
theorem dX8_rounds_35 : decode cX8_rounds 35 = .ok (.getfield 86, 3) := by decide +kernel
theorem dX8_rounds_38 : decode cX8_rounds 38 = .ok (.iload_n 2, 1) := by decide +kernel
theorem dX8_rounds_39 : decode cX8_rounds 39 = .ok (.iconst 0, 1) := by decide +kernel
theorem dX8_rounds_40 : decode cX8_rounds 40 = .ok (.iastore, 1) := by decide +kernel
theorem dX8_rounds_41 : decode cX8_rounds 41 = .ok (.aload_n 0, 1) := by decide +kernel
theorem dX8_rounds_42 : decode cX8_rounds 42 = .ok (.getfield 89, 3) := by decide +kernel
theorem dX8_rounds_45 : decode cX8_rounds 45 = .ok (.iload_n 2, 1) := by decide +kernel
theorem dX8_rounds_46 : decode cX8_rounds 46 = .ok (.iconst 0, 1) := by decide +kernel
theorem dX8_rounds_47 : decode cX8_rounds 47 = .ok (.iastore, 1) := by decide +kernel
theorem dX8_rounds_48 : decode cX8_rounds 48 = .ok (.iinc 2 1, 3) := by decide +kernel
theorem dX8_rounds_51 : decode cX8_rounds 51 = .ok (.goto (-49), 3) := by decide +kernel
theorem dX8_rounds_54 : decode cX8_rounds 54 = .ok (.iconst 0, 1) := by decide +kernel
theorem dX8_rounds_55 : decode cX8_rounds 55 = .ok (.istore_n 2, 1) := by decide +kernel
theorem dX8_rounds_56 : decode cX8_rounds 56 = .ok (.iload_n 2, 1) := by decide +kernel
theorem dX8_rounds_57 : decode cX8_rounds 57 = .ok (.iload_n 1, 1) := by decide +kernel
theorem dX8_rounds_58 : decode cX8_rounds 58 = .ok (.if_icmp .ge 67, 3) := by decide +kernel
theorem dX8_rounds_61 : decode cX8_rounds 61 = .ok (.aload_n 0, 1) := by decide +kernel
theorem dX8_rounds_62 : decode cX8_rounds 62 = .ok (.aload_n 0, 1) := by decide +kernel
theorem dX8_rounds_63 : decode cX8_rounds 63 = .ok (.getfield 31, 3) := by decide +kernel
theorem dX8_rounds_66 : decode cX8_rounds 66 = .ok (.iload_n 2, 1) := by decide +kernel
theorem dX8_rounds_67 : decode cX8_rounds 67 = .ok (.iaload, 1) := by decide +kernel
theorem dX8_rounds_68 : decode cX8_rounds 68 = .ok (.aload_n 0, 1) := by decide +kernel
theorem dX8_rounds_69 : decode cX8_rounds 69 = .ok (.getfield 28, 3) := by decide +kernel
theorem dX8_rounds_72 : decode cX8_rounds 72 = .ok (.iload_n 2, 1) := by decide +kernel
theorem dX8_rounds_73 : decode cX8_rounds 73 = .ok (.iaload, 1) := by decide +kernel
theorem dX8_rounds_74 : decode cX8_rounds 74 = .ok (.aload_n 0, 1) := by decide +kernel
theorem dX8_rounds_75 : decode cX8_rounds 75 = .ok (.getfield 34, 3) := by decide +kernel
theorem dX8_rounds_78 : decode cX8_rounds 78 = .ok (.iload_n 2, 1) := by decide +kernel
theorem dX8_rounds_79 : decode cX8_rounds 79 = .ok (.iaload, 1) := by decide +kernel
theorem dX8_rounds_80 : decode cX8_rounds 80 = .ok (.aload_n 0, 1) := by decide +kernel
theorem dX8_rounds_81 : decode cX8_rounds 81 = .ok (.getfield 37, 3) := by decide +kernel
theorem dX8_rounds_84 : decode cX8_rounds 84 = .ok (.iload_n 2, 1) := by decide +kernel
theorem dX8_rounds_85 : decode cX8_rounds 85 = .ok (.iaload, 1) := by decide +kernel
theorem dX8_rounds_86 : decode cX8_rounds 86 = .ok (.invokevirtual 126, 3) := by decide +kernel
theorem dX8_rounds_89 : decode cX8_rounds 89 = .ok (.aload_n 0, 1) := by decide +kernel
theorem dX8_rounds_90 : decode cX8_rounds 90 = .ok (.aload_n 0, 1) := by decide +kernel
theorem dX8_rounds_91 : decode cX8_rounds 91 = .ok (.getfield 28, 3) := by decide +kernel
theorem dX8_rounds_94 : decode cX8_rounds 94 = .ok (.iload_n 2, 1) := by decide +kernel
theorem dX8_rounds_95 : decode cX8_rounds 95 = .ok (.iaload, 1) := by decide +kernel
theorem dX8_rounds_96 : decode cX8_rounds 96 = .ok (.aload_n 0, 1) := by decide +kernel
theorem dX8_rounds_97 : decode cX8_rounds 97 = .ok (.getfield 31, 3) := by decide +kernel
theorem dX8_rounds_100 : decode cX8_rounds 100 = .ok (.iload_n 2, 1) := by decide +kernel
theorem dX8_rounds_101 : decode cX8_rounds 101 = .ok (.iaload, 1) := by decide +kernel
theorem dX8_rounds_102 : decode cX8_rounds 102 = .ok (.aload_n 0, 1) := by decide +kernel
theorem dX8_rounds_103 : decode cX8_rounds 103 = .ok (.getfield 34, 3) := by decide +kernel
theorem dX8_rounds_106 : decode cX8_rounds 106 = .ok (.iload_n 2, 1) := by decide +kernel
theorem dX8_rounds_107 : decode cX8_rounds 107 = .ok (.iaload, 1) := by decide +kernel
theorem dX8_rounds_108 : decode cX8_rounds 108 = .ok (.ineg, 1) := by decide +kernel
theorem dX8_rounds_109 : decode cX8_rounds 109 = .ok (.aload_n 0, 1) := by decide +kernel
theorem dX8_rounds_110 : decode cX8_rounds 110 = .ok (.getfield 37, 3) := by decide +kernel
theorem dX8_rounds_113 : decode cX8_rounds 113 = .ok (.iload_n 2, 1) := by decide +kernel
theorem dX8_rounds_114 : decode cX8_rounds 114 = .ok (.iaload, 1) := by decide +kernel
theorem dX8_rounds_115 : decode cX8_rounds 115 = .ok (.ineg, 1) := by decide +kernel
theorem dX8_rounds_116 : decode cX8_rounds 116 = .ok (.invokevirtual 126, 3) := by decide +kernel
theorem dX8_rounds_119 : decode cX8_rounds 119 = .ok (.iinc 2 1, 3) := by decide +kernel
theorem dX8_rounds_122 : decode cX8_rounds 122 = .ok (.goto (-66), 3) := by decide +kernel
theorem dX8_rounds_125 : decode cX8_rounds 125 = .ok (.iconst 0, 1) := by decide +kernel
theorem dX8_rounds_126 : decode cX8_rounds 126 = .ok (.istore_n 2, 1) := by decide +kernel
theorem dX8_rounds_127 : decode cX8_rounds 127 = .ok (.iconst 0, 1) := by decide +kernel
theorem dX8_rounds_128 : decode cX8_rounds 128 = .ok (.istore_n 3, 1) := by decide +kernel
theorem dX8_rounds_129 : decode cX8_rounds 129 = .ok (.iload_n 3, 1) := by decide +kernel
theorem dX8_rounds_130 : decode cX8_rounds 130 = .ok (.bipush 24, 2) := by decide +kernel
theorem dX8_rounds_132 : decode cX8_rounds 132 = .ok (.if_icmp .ge 86, 3) := by decide +kernel
theorem dX8_rounds_135 : decode cX8_rounds 135 = .ok (.aload_n 0, 1) := by decide +kernel
theorem dX8_rounds_136 : decode cX8_rounds 136 = .ok (.getfield 89, 3) := by decide +kernel
theorem dX8_rounds_139 : decode cX8_rounds 139 = .ok (.iload_n 3, 1) := by decide +kernel
theorem dX8_rounds_140 : decode cX8_rounds 140 = .ok (.iaload, 1) := by decide +kernel
theorem dX8_rounds_141 : decode cX8_rounds 141 = .ok (.ifCond .le 71, 3) := by decide +kernel
theorem dX8_rounds_144 : decode cX8_rounds 144 = .ok (.aload_n 0, 1) := by decide +kernel
theorem dX8_rounds_145 : decode cX8_rounds 145 = .ok (.getfield 46, 3) := by decide +kernel
theorem dX8_rounds_148 : decode cX8_rounds 148 = .ok (.aload_n 0, 1) := by decide +kernel
theorem dX8_rounds_149 : decode cX8_rounds 149 = .ok (.getfield 100, 3) := by decide +kernel
theorem dX8_rounds_152 : decode cX8_rounds 152 = .ok (.iload_n 3, 1) := by decide +kernel
theorem dX8_rounds_153 : decode cX8_rounds 153 = .ok (.invokestatic 122, 3) := by decide +kernel
theorem dX8_rounds_156 : decode cX8_rounds 156 = .ok (.iconst 1, 1) := by decide +kernel
theorem dX8_rounds_157 : decode cX8_rounds 157 = .ok (.bastore, 1) := by decide +kernel
theorem dX8_rounds_158 : decode cX8_rounds 158 = .ok (.aload_n 0, 1) := by decide +kernel
theorem dX8_rounds_159 : decode cX8_rounds 159 = .ok (.getfield 50, 3) := by decide +kernel
theorem dX8_rounds_162 : decode cX8_rounds 162 = .ok (.aload_n 0, 1) := by decide +kernel
theorem dX8_rounds_163 : decode cX8_rounds 163 = .ok (.getfield 100, 3) := by decide +kernel
theorem dX8_rounds_166 : decode cX8_rounds 166 = .ok (.iload_n 3, 1) := by decide +kernel
theorem dX8_rounds_167 : decode cX8_rounds 167 = .ok (.invokestatic 122, 3) := by decide +kernel
theorem dX8_rounds_170 : decode cX8_rounds 170 = .ok (.aload_n 0, 1) := by decide +kernel
theorem dX8_rounds_171 : decode cX8_rounds 171 = .ok (.getfield 83, 3) := by decide +kernel
theorem dX8_rounds_174 : decode cX8_rounds 174 = .ok (.iload_n 3, 1) := by decide +kernel
theorem dX8_rounds_175 : decode cX8_rounds 175 = .ok (.iaload, 1) := by decide +kernel
theorem dX8_rounds_176 : decode cX8_rounds 176 = .ok (.aload_n 0, 1) := by decide +kernel
theorem dX8_rounds_177 : decode cX8_rounds 177 = .ok (.getfield 89, 3) := by decide +kernel
theorem dX8_rounds_180 : decode cX8_rounds 180 = .ok (.iload_n 3, 1) := by decide +kernel
theorem dX8_rounds_181 : decode cX8_rounds 181 = .ok (.iaload, 1) := by decide +kernel
theorem dX8_rounds_182 : decode cX8_rounds 182 = .ok (.idiv, 1) := by decide +kernel
theorem dX8_rounds_183 : decode cX8_rounds 183 = .ok (.iastore, 1) := by decide +kernel
theorem dX8_rounds_184 : decode cX8_rounds 184 = .ok (.aload_n 0, 1) := by decide +kernel
theorem dX8_rounds_185 : decode cX8_rounds 185 = .ok (.getfield 53, 3) := by decide +kernel
theorem dX8_rounds_188 : decode cX8_rounds 188 = .ok (.aload_n 0, 1) := by decide +kernel
theorem dX8_rounds_189 : decode cX8_rounds 189 = .ok (.getfield 100, 3) := by decide +kernel
theorem dX8_rounds_192 : decode cX8_rounds 192 = .ok (.iload_n 3, 1) := by decide +kernel
theorem dX8_rounds_193 : decode cX8_rounds 193 = .ok (.invokestatic 122, 3) := by decide +kernel
theorem dX8_rounds_196 : decode cX8_rounds 196 = .ok (.aload_n 0, 1) := by decide +kernel
theorem dX8_rounds_197 : decode cX8_rounds 197 = .ok (.getfield 86, 3) := by decide +kernel
theorem dX8_rounds_200 : decode cX8_rounds 200 = .ok (.iload_n 3, 1) := by decide +kernel
theorem dX8_rounds_201 : decode cX8_rounds 201 = .ok (.iaload, 1) := by decide +kernel
theorem dX8_rounds_202 : decode cX8_rounds 202 = .ok (.aload_n 0, 1) := by decide +kernel
theorem dX8_rounds_203 : decode cX8_rounds 203 = .ok (.getfield 89, 3) := by decide +kernel
theorem dX8_rounds_206 : decode cX8_rounds 206 = .ok (.iload_n 3, 1) := by decide +kernel
theorem dX8_rounds_207 : decode cX8_rounds 207 = .ok (.iaload, 1) := by decide +kernel
theorem dX8_rounds_208 : decode cX8_rounds 208 = .ok (.idiv, 1) := by decide +kernel
theorem dX8_rounds_209 : decode cX8_rounds 209 = .ok (.iastore, 1) := by decide +kernel
theorem dX8_rounds_210 : decode cX8_rounds 210 = .ok (.iconst 1, 1) := by decide +kernel
theorem dX8_rounds_211 : decode cX8_rounds 211 = .ok (.istore_n 2, 1) := by decide +kernel
theorem dX8_rounds_212 : decode cX8_rounds 212 = .ok (.iinc 3 1, 3) := by decide +kernel
theorem dX8_rounds_215 : decode cX8_rounds 215 = .ok (.goto (-86), 3) := by decide +kernel
theorem dX8_rounds_218 : decode cX8_rounds 218 = .ok (.iload_n 2, 1) := by decide +kernel
theorem dX8_rounds_219 : decode cX8_rounds 219 = .ok (.ireturn, 1) := by decide +kernel
theorem dX8_chart_0 : decode cX8_chart 0 = .ok (.iload_n 1, 1) := by decide +kernel
theorem dX8_chart_1 : decode cX8_chart 1 = .ok (.iconst 1, 1) := by decide +kernel
theorem dX8_chart_2 : decode cX8_chart 2 = .ok (.aload_n 0, 1) := by decide +kernel
theorem dX8_chart_3 : decode cX8_chart 3 = .ok (.getfield 116, 3) := by decide +kernel
theorem dX8_chart_6 : decode cX8_chart 6 = .ok (.invokestatic 96, 3) := by decide +kernel
theorem dX8_chart_9 : decode cX8_chart 9 = .ok (.ifCond .eq 14, 3) := by decide +kernel
theorem dX8_chart_12 : decode cX8_chart 12 = .ok (.iload_n 2, 1) := by decide +kernel
theorem dX8_chart_13 : decode cX8_chart 13 = .ok (.invokestatic 110, 3) := by decide +kernel
theorem dX8_chart_16 : decode cX8_chart 16 = .ok (.ifCond .eq 7, 3) := by decide +kernel
theorem dX8_chart_19 : decode cX8_chart 19 = .ok (.iconst 1, 1) := by decide +kernel
theorem dX8_chart_20 : decode cX8_chart 20 = .ok (.goto 4, 3) := by decide +kernel
theorem dX8_chart_23 : decode cX8_chart 23 = .ok (.iconst 0, 1) := by decide +kernel
theorem dX8_chart_24 : decode cX8_chart 24 = .ok (.istore_n 3, 1) := by decide +kernel
theorem dX8_chart_25 : decode cX8_chart 25 = .ok (.aload_n 0, 1) := by decide +kernel
theorem dX8_chart_26 : decode cX8_chart 26 = .ok (.iload_n 3, 1) := by decide +kernel
theorem dX8_chart_27 : decode cX8_chart 27 = .ok (.ifCond .ne 7, 3) := by decide +kernel
theorem dX8_chart_30 : decode cX8_chart 30 = .ok (.iconst 1, 1) := by decide +kernel
theorem dX8_chart_31 : decode cX8_chart 31 = .ok (.goto 17, 3) := by decide +kernel
theorem dX8_chart_34 : decode cX8_chart 34 = .ok (.aload_n 0, 1) := by decide +kernel
theorem dX8_chart_35 : decode cX8_chart 35 = .ok (.getfield 100, 3) := by decide +kernel
theorem dX8_chart_38 : decode cX8_chart 38 = .ok (.bipush 12, 2) := by decide +kernel
theorem dX8_chart_40 : decode cX8_chart 40 = .ok (.if_icmp .ne 7, 3) := by decide +kernel
theorem dX8_chart_43 : decode cX8_chart 43 = .ok (.iconst 2, 1) := by decide +kernel
theorem dX8_chart_44 : decode cX8_chart 44 = .ok (.goto 4, 3) := by decide +kernel
theorem dX8_chart_47 : decode cX8_chart 47 = .ok (.iconst 0, 1) := by decide +kernel
theorem dX8_chart_48 : decode cX8_chart 48 = .ok (.putfield 92, 3) := by decide +kernel
theorem dX8_chart_51 : decode cX8_chart 51 = .ok (.aload_n 0, 1) := by decide +kernel
theorem dX8_chart_52 : decode cX8_chart 52 = .ok (.getfield 92, 3) := by decide +kernel
theorem dX8_chart_55 : decode cX8_chart 55 = .ok (.ifCond .le 5, 3) := by decide +kernel
theorem dX8_chart_58 : decode cX8_chart 58 = .ok (.iconst 0, 1) := by decide +kernel
theorem dX8_chart_59 : decode cX8_chart 59 = .ok (.ireturn, 1) := by decide +kernel
theorem dX8_chart_60 : decode cX8_chart 60 = .ok (.iconst 0, 1) := by decide +kernel
theorem dX8_chart_61 : decode cX8_chart 61 = .ok (.istore 4, 2) := by decide +kernel
theorem dX8_chart_63 : decode cX8_chart 63 = .ok (.iload 4, 2) := by decide +kernel
theorem dX8_chart_65 : decode cX8_chart 65 = .ok (.bipush 24, 2) := by decide +kernel
theorem dX8_chart_67 : decode cX8_chart 67 = .ok (.if_icmp .ge 69, 3) := by decide +kernel
theorem dX8_chart_70 : decode cX8_chart 70 = .ok (.aload_n 0, 1) := by decide +kernel
theorem dX8_chart_71 : decode cX8_chart 71 = .ok (.getfield 46, 3) := by decide +kernel
theorem dX8_chart_74 : decode cX8_chart 74 = .ok (.aload_n 0, 1) := by decide +kernel
theorem dX8_chart_75 : decode cX8_chart 75 = .ok (.getfield 100, 3) := by decide +kernel
theorem dX8_chart_78 : decode cX8_chart 78 = .ok (.iload 4, 2) := by decide +kernel
theorem dX8_chart_80 : decode cX8_chart 80 = .ok (.invokestatic 122, 3) := by decide +kernel
theorem dX8_chart_83 : decode cX8_chart 83 = .ok (.iload 4, 2) := by decide +kernel
theorem dX8_chart_85 : decode cX8_chart 85 = .ok (.ifCond .ne 7, 3) := by decide +kernel
theorem dX8_chart_88 : decode cX8_chart 88 = .ok (.iconst 1, 1) := by decide +kernel
theorem dX8_chart_89 : decode cX8_chart 89 = .ok (.goto 4, 3) := by decide +kernel
theorem dX8_chart_92 : decode cX8_chart 92 = .ok (.iconst 0, 1) := by decide +kernel
theorem dX8_chart_93 : decode cX8_chart 93 = .ok (.bastore, 1) := by decide +kernel
theorem dX8_chart_94 : decode cX8_chart 94 = .ok (.aload_n 0, 1) := by decide +kernel
theorem dX8_chart_95 : decode cX8_chart 95 = .ok (.getfield 56, 3) := by decide +kernel
theorem dX8_chart_98 : decode cX8_chart 98 = .ok (.aload_n 0, 1) := by decide +kernel
theorem dX8_chart_99 : decode cX8_chart 99 = .ok (.getfield 100, 3) := by decide +kernel
theorem dX8_chart_102 : decode cX8_chart 102 = .ok (.iload 4, 2) := by decide +kernel
theorem dX8_chart_104 : decode cX8_chart 104 = .ok (.invokestatic 122, 3) := by decide +kernel
theorem dX8_chart_107 : decode cX8_chart 107 = .ok (.aload_n 0, 1) := by decide +kernel
theorem dX8_chart_108 : decode cX8_chart 108 = .ok (.getfield 16, 3) := by decide +kernel
theorem dX8_chart_111 : decode cX8_chart 111 = .ok (.iload 4, 2) := by decide +kernel
theorem dX8_chart_113 : decode cX8_chart 113 = .ok (.iaload, 1) := by decide +kernel
theorem dX8_chart_114 : decode cX8_chart 114 = .ok (.iastore, 1) := by decide +kernel
theorem dX8_chart_115 : decode cX8_chart 115 = .ok (.aload_n 0, 1) := by decide +kernel
theorem dX8_chart_116 : decode cX8_chart 116 = .ok (.getfield 59, 3) := by decide +kernel
theorem dX8_chart_119 : decode cX8_chart 119 = .ok (.aload_n 0, 1) := by decide +kernel
theorem dX8_chart_120 : decode cX8_chart 120 = .ok (.getfield 100, 3) := by decide +kernel
theorem dX8_chart_123 : decode cX8_chart 123 = .ok (.iload 4, 2) := by decide +kernel
theorem dX8_chart_125 : decode cX8_chart 125 = .ok (.invokestatic 122, 3) := by decide +kernel
theorem dX8_chart_128 : decode cX8_chart 128 = .ok (.iconst (-1), 1) := by decide +kernel
theorem dX8_chart_129 : decode cX8_chart 129 = .ok (.iastore, 1) := by decide +kernel
theorem dX8_chart_130 : decode cX8_chart 130 = .ok (.iinc 4 1, 3) := by decide +kernel
theorem dX8_chart_133 : decode cX8_chart 133 = .ok (.goto (-70), 3) := by decide +kernel
theorem dX8_chart_136 : decode cX8_chart 136 = .ok (.aload_n 0, 1) := by decide +kernel
theorem dX8_chart_137 : decode cX8_chart 137 = .ok (.getfield 50, 3) := by decide +kernel
theorem dX8_chart_140 : decode cX8_chart 140 = .ok (.aload_n 0, 1) := by decide +kernel
theorem dX8_chart_141 : decode cX8_chart 141 = .ok (.getfield 100, 3) := by decide +kernel
theorem dX8_chart_144 : decode cX8_chart 144 = .ok (.iconst 0, 1) := by decide +kernel
theorem dX8_chart_145 : decode cX8_chart 145 = .ok (.invokestatic 122, 3) := by decide +kernel
theorem dX8_chart_148 : decode cX8_chart 148 = .ok (.aload_n 0, 1) := by decide +kernel
theorem dX8_chart_149 : decode cX8_chart 149 = .ok (.getfield 7, 3) := by decide +kernel
theorem dX8_chart_152 : decode cX8_chart 152 = .ok (.iconst 0, 1) := by decide +kernel
theorem dX8_chart_153 : decode cX8_chart 153 = .ok (.iaload, 1) := by decide +kernel
theorem dX8_chart_154 : decode cX8_chart 154 = .ok (.iastore, 1) := by decide +kernel
theorem dX8_chart_155 : decode cX8_chart 155 = .ok (.aload_n 0, 1) := by decide +kernel
theorem dX8_chart_156 : decode cX8_chart 156 = .ok (.getfield 53, 3) := by decide +kernel
theorem dX8_chart_159 : decode cX8_chart 159 = .ok (.aload_n 0, 1) := by decide +kernel
theorem dX8_chart_160 : decode cX8_chart 160 = .ok (.getfield 100, 3) := by decide +kernel
theorem dX8_chart_163 : decode cX8_chart 163 = .ok (.iconst 0, 1) := by decide +kernel
theorem dX8_chart_164 : decode cX8_chart 164 = .ok (.invokestatic 122, 3) := by decide +kernel
theorem dX8_chart_167 : decode cX8_chart 167 = .ok (.aload_n 0, 1) := by decide +kernel
theorem dX8_chart_168 : decode cX8_chart 168 = .ok (.getfield 13, 3) := by decide +kernel
theorem dX8_chart_171 : decode cX8_chart 171 = .ok (.iconst 0, 1) := by decide +kernel
theorem dX8_chart_172 : decode cX8_chart 172 = .ok (.iaload, 1) := by decide +kernel
theorem dX8_chart_173 : decode cX8_chart 173 = .ok (.iastore, 1) := by decide +kernel
theorem dX8_chart_174 : decode cX8_chart 174 = .ok (.iconst 0, 1) := by decide +kernel
theorem dX8_chart_175 : decode cX8_chart 175 = .ok (.istore 4, 2) := by decide +kernel
theorem dX8_chart_177 : decode cX8_chart 177 = .ok (.iload 4, 2) := by decide +kernel
theorem dX8_chart_179 : decode cX8_chart 179 = .ok (.iconst 3, 1) := by decide +kernel
theorem dX8_chart_180 : decode cX8_chart 180 = .ok (.if_icmp .ge 25, 3) := by decide +kernel
theorem dX8_chart_183 : decode cX8_chart 183 = .ok (.aload_n 0, 1) := by decide +kernel
theorem dX8_chart_184 : decode cX8_chart 184 = .ok (.getfield 43, 3) := by decide +kernel
theorem dX8_chart_187 : decode cX8_chart 187 = .ok (.iconst 3, 1) := by decide +kernel
theorem dX8_chart_188 : decode cX8_chart 188 = .ok (.aload_n 0, 1) := by decide +kernel
theorem dX8_chart_189 : decode cX8_chart 189 = .ok (.getfield 100, 3) := by decide +kernel
theorem dX8_chart_192 : decode cX8_chart 192 = .ok (.imul, 1) := by decide +kernel
theorem dX8_chart_193 : decode cX8_chart 193 = .ok (.iload 4, 2) := by decide +kernel
theorem dX8_chart_195 : decode cX8_chart 195 = .ok (.iadd, 1) := by decide +kernel
theorem dX8_chart_196 : decode cX8_chart 196 = .ok (.bipush 100, 2) := by decide +kernel
theorem dX8_chart_198 : decode cX8_chart 198 = .ok (.iastore, 1) := by decide +kernel
theorem dX8_chart_199 : decode cX8_chart 199 = .ok (.iinc 4 1, 3) := by decide +kernel
theorem dX8_chart_202 : decode cX8_chart 202 = .ok (.goto (-25), 3) := by decide +kernel
theorem dX8_chart_205 : decode cX8_chart 205 = .ok (.iconst 1, 1) := by decide +kernel
theorem dX8_chart_206 : decode cX8_chart 206 = .ok (.istore 4, 2) := by decide +kernel
theorem dX8_chart_208 : decode cX8_chart 208 = .ok (.iload 4, 2) := by decide +kernel
theorem dX8_chart_210 : decode cX8_chart 210 = .ok (.ifCond .eq 13, 3) := by decide +kernel
theorem dX8_chart_213 : decode cX8_chart 213 = .ok (.aload_n 0, 1) := by decide +kernel
theorem dX8_chart_214 : decode cX8_chart 214 = .ok (.iload_n 1, 1) := by decide +kernel
theorem dX8_chart_215 : decode cX8_chart 215 = .ok (.invokevirtual 130, 3) := by decide +kernel
theorem dX8_chart_218 : decode cX8_chart 218 = .ok (.istore 4, 2) := by decide +kernel
theorem dX8_chart_220 : decode cX8_chart 220 = .ok (.goto (-12), 3) := by decide +kernel
theorem dX8_chart_223 : decode cX8_chart 223 = .ok (.aload_n 0, 1) := by decide +kernel
theorem dX8_chart_224 : decode cX8_chart 224 = .ok (.getfield 40, 3) := by decide +kernel
theorem dX8_chart_227 : decode cX8_chart 227 = .ok (.aload_n 0, 1) := by decide +kernel
theorem dX8_chart_228 : decode cX8_chart 228 = .ok (.getfield 100, 3) := by decide +kernel
theorem dX8_chart_231 : decode cX8_chart 231 = .ok (.iload_n 2, 1) := by decide +kernel
theorem dX8_chart_232 : decode cX8_chart 232 = .ok (.iastore, 1) := by decide +kernel
theorem dX8_chart_233 : decode cX8_chart 233 = .ok (.aload_n 0, 1) := by decide +kernel
theorem dX8_chart_234 : decode cX8_chart 234 = .ok (.dup, 1) := by decide +kernel
theorem dX8_chart_235 : decode cX8_chart 235 = .ok (.getfield 100, 3) := by decide +kernel
theorem dX8_chart_238 : decode cX8_chart 238 = .ok (.iconst 1, 1) := by decide +kernel
theorem dX8_chart_239 : decode cX8_chart 239 = .ok (.iadd, 1) := by decide +kernel
theorem dX8_chart_240 : decode cX8_chart 240 = .ok (.putfield 100, 3) := by decide +kernel
theorem dX8_chart_243 : decode cX8_chart 243 = .ok (.aload_n 0, 1) := by decide +kernel
theorem dX8_chart_244 : decode cX8_chart 244 = .ok (.getfield 100, 3) := by decide +kernel
theorem dX8_chart_247 : decode cX8_chart 247 = .ok (.iconst 1, 1) := by decide +kernel
theorem dX8_chart_248 : decode cX8_chart 248 = .ok (.isub, 1) := by decide +kernel
theorem dX8_chart_249 : decode cX8_chart 249 = .ok (.ireturn, 1) := by decide +kernel
theorem dX8_isCopyist_0 : decode cX8_isCopyist 0 = .ok (.iload_n 0, 1) := by decide +kernel
theorem dX8_isCopyist_1 : decode cX8_isCopyist 1 = .ok (.iconst 0, 1) := by decide +kernel
theorem dX8_isCopyist_2 : decode cX8_isCopyist 2 = .ok (.iconst 3, 1) := by decide +kernel
theorem dX8_isCopyist_3 : decode cX8_isCopyist 3 = .ok (.invokestatic 96, 3) := by decide +kernel
theorem dX8_isCopyist_6 : decode cX8_isCopyist 6 = .ok (.ireturn, 1) := by decide +kernel
theorem dX8_hand_0 : decode cX8_hand 0 = .ok (.aload_n 0, 1) := by decide +kernel
theorem dX8_hand_1 : decode cX8_hand 1 = .ok (.iload_n 1, 1) := by decide +kernel
theorem dX8_hand_2 : decode cX8_hand 2 = .ok (.invokestatic 133, 3) := by decide +kernel
theorem dX8_hand_5 : decode cX8_hand 5 = .ok (.ifCond .ne 7, 3) := by decide +kernel
theorem dX8_hand_8 : decode cX8_hand 8 = .ok (.iconst 1, 1) := by decide +kernel
theorem dX8_hand_9 : decode cX8_hand 9 = .ok (.goto 19, 3) := by decide +kernel
theorem dX8_hand_12 : decode cX8_hand 12 = .ok (.iload_n 2, 1) := by decide +kernel
theorem dX8_hand_13 : decode cX8_hand 13 = .ok (.bipush (-9), 2) := by decide +kernel
theorem dX8_hand_15 : decode cX8_hand 15 = .ok (.bipush 9, 2) := by decide +kernel
theorem dX8_hand_17 : decode cX8_hand 17 = .ok (.invokestatic 96, 3) := by decide +kernel
theorem dX8_hand_20 : decode cX8_hand 20 = .ok (.ifCond .ne 7, 3) := by decide +kernel
theorem dX8_hand_23 : decode cX8_hand 23 = .ok (.iconst 2, 1) := by decide +kernel
theorem dX8_hand_24 : decode cX8_hand 24 = .ok (.goto 4, 3) := by decide +kernel
theorem dX8_hand_27 : decode cX8_hand 27 = .ok (.iconst 0, 1) := by decide +kernel
theorem dX8_hand_28 : decode cX8_hand 28 = .ok (.putfield 92, 3) := by decide +kernel
theorem dX8_hand_31 : decode cX8_hand 31 = .ok (.aload_n 0, 1) := by decide +kernel
theorem dX8_hand_32 : decode cX8_hand 32 = .ok (.getfield 92, 3) := by decide +kernel
theorem dX8_hand_35 : decode cX8_hand 35 = .ok (.ifCond .le 5, 3) := by decide +kernel
theorem dX8_hand_38 : decode cX8_hand 38 = .ok (.iconst 0, 1) := by decide +kernel
theorem dX8_hand_39 : decode cX8_hand 39 = .ok (.ireturn, 1) := by decide +kernel
theorem dX8_hand_40 : decode cX8_hand 40 = .ok (.aload_n 0, 1) := by decide +kernel
theorem dX8_hand_41 : decode cX8_hand 41 = .ok (.getfield 62, 3) := by decide +kernel
theorem dX8_hand_44 : decode cX8_hand 44 = .ok (.iload_n 1, 1) := by decide +kernel
theorem dX8_hand_45 : decode cX8_hand 45 = .ok (.iaload, 1) := by decide +kernel
theorem dX8_hand_46 : decode cX8_hand 46 = .ok (.istore_n 3, 1) := by decide +kernel
theorem dX8_hand_47 : decode cX8_hand 47 = .ok (.aload_n 0, 1) := by decide +kernel
theorem dX8_hand_48 : decode cX8_hand 48 = .ok (.getfield 62, 3) := by decide +kernel
theorem dX8_hand_51 : decode cX8_hand 51 = .ok (.iload_n 1, 1) := by decide +kernel
theorem dX8_hand_52 : decode cX8_hand 52 = .ok (.iload_n 2, 1) := by decide +kernel
theorem dX8_hand_53 : decode cX8_hand 53 = .ok (.iastore, 1) := by decide +kernel
theorem dX8_hand_54 : decode cX8_hand 54 = .ok (.iload_n 3, 1) := by decide +kernel
theorem dX8_hand_55 : decode cX8_hand 55 = .ok (.ireturn, 1) := by decide +kernel
theorem dX8_reads_0 : decode cX8_reads 0 = .ok (.aload_n 0, 1) := by decide +kernel
theorem dX8_reads_1 : decode cX8_reads 1 = .ok (.iload_n 1, 1) := by decide +kernel
theorem dX8_reads_2 : decode cX8_reads 2 = .ok (.invokestatic 133, 3) := by decide +kernel
theorem dX8_reads_5 : decode cX8_reads 5 = .ok (.ifCond .ne 7, 3) := by decide +kernel
theorem dX8_reads_8 : decode cX8_reads 8 = .ok (.iconst 1, 1) := by decide +kernel
theorem dX8_reads_9 : decode cX8_reads 9 = .ok (.goto 22, 3) := by decide +kernel
theorem dX8_reads_12 : decode cX8_reads 12 = .ok (.iload_n 2, 1) := by decide +kernel
theorem dX8_reads_13 : decode cX8_reads 13 = .ok (.invokestatic 106, 3) := by decide +kernel
theorem dX8_reads_16 : decode cX8_reads 16 = .ok (.ifCond .eq 10, 3) := by decide +kernel
theorem dX8_reads_19 : decode cX8_reads 19 = .ok (.iload_n 3, 1) := by decide +kernel
theorem dX8_reads_20 : decode cX8_reads 20 = .ok (.invokestatic 106, 3) := by decide +kernel
theorem dX8_reads_23 : decode cX8_reads 23 = .ok (.ifCond .ne 7, 3) := by decide +kernel
theorem dX8_reads_26 : decode cX8_reads 26 = .ok (.iconst 2, 1) := by decide +kernel
theorem dX8_reads_27 : decode cX8_reads 27 = .ok (.goto 4, 3) := by decide +kernel
theorem dX8_reads_30 : decode cX8_reads 30 = .ok (.iconst 0, 1) := by decide +kernel
theorem dX8_reads_31 : decode cX8_reads 31 = .ok (.putfield 92, 3) := by decide +kernel
theorem dX8_reads_34 : decode cX8_reads 34 = .ok (.aload_n 0, 1) := by decide +kernel
theorem dX8_reads_35 : decode cX8_reads 35 = .ok (.getfield 92, 3) := by decide +kernel
theorem dX8_reads_38 : decode cX8_reads 38 = .ok (.ifCond .ne 15, 3) := by decide +kernel
theorem dX8_reads_41 : decode cX8_reads 41 = .ok (.aload_n 0, 1) := by decide +kernel
theorem dX8_reads_42 : decode cX8_reads 42 = .ok (.getfield 65, 3) := by decide +kernel
theorem dX8_reads_45 : decode cX8_reads 45 = .ok (.bipush 100, 2) := by decide +kernel
theorem dX8_reads_47 : decode cX8_reads 47 = .ok (.iload_n 1, 1) := by decide +kernel
theorem dX8_reads_48 : decode cX8_reads 48 = .ok (.imul, 1) := by decide +kernel
theorem dX8_reads_49 : decode cX8_reads 49 = .ok (.iload_n 2, 1) := by decide +kernel
theorem dX8_reads_50 : decode cX8_reads 50 = .ok (.iadd, 1) := by decide +kernel
theorem dX8_reads_51 : decode cX8_reads 51 = .ok (.iload_n 3, 1) := by decide +kernel
theorem dX8_reads_52 : decode cX8_reads 52 = .ok (.iastore, 1) := by decide +kernel
theorem dX8_reads_53 : decode cX8_reads 53 = .ok (.return_, 1) := by decide +kernel
theorem dX8_made_0 : decode cX8_made 0 = .ok (.iload_n 1, 1) := by decide +kernel
theorem dX8_made_1 : decode cX8_made 1 = .ok (.iconst 1, 1) := by decide +kernel
theorem dX8_made_2 : decode cX8_made 2 = .ok (.if_icmp .ne 11, 3) := by decide +kernel
theorem dX8_made_5 : decode cX8_made 5 = .ok (.iload_n 0, 1) := by decide +kernel
theorem dX8_made_6 : decode cX8_made 6 = .ok (.iconst 5, 1) := by decide +kernel
theorem dX8_made_7 : decode cX8_made 7 = .ok (.idiv, 1) := by decide +kernel
theorem dX8_made_8 : decode cX8_made 8 = .ok (.iconst 5, 1) := by decide +kernel
theorem dX8_made_9 : decode cX8_made 9 = .ok (.imul, 1) := by decide +kernel
theorem dX8_made_10 : decode cX8_made 10 = .ok (.goto 15, 3) := by decide +kernel
theorem dX8_made_13 : decode cX8_made 13 = .ok (.iload_n 1, 1) := by decide +kernel
theorem dX8_made_14 : decode cX8_made 14 = .ok (.iconst 2, 1) := by decide +kernel
theorem dX8_made_15 : decode cX8_made 15 = .ok (.if_icmp .ne 9, 3) := by decide +kernel
theorem dX8_made_18 : decode cX8_made 18 = .ok (.iload_n 0, 1) := by decide +kernel
theorem dX8_made_19 : decode cX8_made 19 = .ok (.iload_n 2, 1) := by decide +kernel
theorem dX8_made_20 : decode cX8_made 20 = .ok (.iadd, 1) := by decide +kernel
theorem dX8_made_21 : decode cX8_made 21 = .ok (.goto 4, 3) := by decide +kernel
theorem dX8_made_24 : decode cX8_made 24 = .ok (.iload_n 0, 1) := by decide +kernel
theorem dX8_made_25 : decode cX8_made 25 = .ok (.ireturn, 1) := by decide +kernel
theorem dX8_copy_0 : decode cX8_copy 0 = .ok (.aload_n 0, 1) := by decide +kernel
theorem dX8_copy_1 : decode cX8_copy 1 = .ok (.iload_n 1, 1) := by decide +kernel
theorem dX8_copy_2 : decode cX8_copy 2 = .ok (.invokevirtual 136, 3) := by decide +kernel
theorem dX8_copy_5 : decode cX8_copy 5 = .ok (.ifCond .eq 14, 3) := by decide +kernel
theorem dX8_copy_8 : decode cX8_copy 8 = .ok (.iload_n 2, 1) := by decide +kernel
theorem dX8_copy_9 : decode cX8_copy 9 = .ok (.invokestatic 133, 3) := by decide +kernel
theorem dX8_copy_12 : decode cX8_copy 12 = .ok (.ifCond .eq 7, 3) := by decide +kernel
theorem dX8_copy_15 : decode cX8_copy 15 = .ok (.iconst 1, 1) := by decide +kernel
theorem dX8_copy_16 : decode cX8_copy 16 = .ok (.goto 4, 3) := by decide +kernel
theorem dX8_copy_19 : decode cX8_copy 19 = .ok (.iconst 0, 1) := by decide +kernel
theorem dX8_copy_20 : decode cX8_copy 20 = .ok (.istore 5, 2) := by decide +kernel
theorem dX8_copy_22 : decode cX8_copy 22 = .ok (.iload 5, 2) := by decide +kernel
theorem dX8_copy_24 : decode cX8_copy 24 = .ok (.ifCond .eq 35, 3) := by decide +kernel
theorem dX8_copy_27 : decode cX8_copy 27 = .ok (.iload_n 3, 1) := by decide +kernel
theorem dX8_copy_28 : decode cX8_copy 28 = .ok (.iconst 0, 1) := by decide +kernel
theorem dX8_copy_29 : decode cX8_copy 29 = .ok (.iconst 2, 1) := by decide +kernel
theorem dX8_copy_30 : decode cX8_copy 30 = .ok (.invokestatic 96, 3) := by decide +kernel
theorem dX8_copy_33 : decode cX8_copy 33 = .ok (.ifCond .eq 26, 3) := by decide +kernel
theorem dX8_copy_36 : decode cX8_copy 36 = .ok (.iload 4, 2) := by decide +kernel
theorem dX8_copy_38 : decode cX8_copy 38 = .ok (.invokestatic 110, 3) := by decide +kernel
theorem dX8_copy_41 : decode cX8_copy 41 = .ok (.ifCond .eq 18, 3) := by decide +kernel
theorem dX8_copy_44 : decode cX8_copy 44 = .ok (.iload 4, 2) := by decide +kernel
theorem dX8_copy_46 : decode cX8_copy 46 = .ok (.aload_n 0, 1) := by decide +kernel
theorem dX8_copy_47 : decode cX8_copy 47 = .ok (.getfield 40, 3) := by decide +kernel
theorem dX8_copy_50 : decode cX8_copy 50 = .ok (.iload_n 1, 1) := by decide +kernel
theorem dX8_copy_51 : decode cX8_copy 51 = .ok (.iaload, 1) := by decide +kernel
theorem dX8_copy_52 : decode cX8_copy 52 = .ok (.if_icmp .lt 7, 3) := by decide +kernel
theorem dX8_copy_55 : decode cX8_copy 55 = .ok (.iconst 1, 1) := by decide +kernel
theorem dX8_copy_56 : decode cX8_copy 56 = .ok (.goto 4, 3) := by decide +kernel
theorem dX8_copy_59 : decode cX8_copy 59 = .ok (.iconst 0, 1) := by decide +kernel
theorem dX8_copy_60 : decode cX8_copy 60 = .ok (.istore 6, 2) := by decide +kernel
theorem dX8_copy_62 : decode cX8_copy 62 = .ok (.aload_n 0, 1) := by decide +kernel
theorem dX8_copy_63 : decode cX8_copy 63 = .ok (.iload 5, 2) := by decide +kernel
theorem dX8_copy_65 : decode cX8_copy 65 = .ok (.ifCond .ne 7, 3) := by decide +kernel
theorem dX8_copy_68 : decode cX8_copy 68 = .ok (.iconst 1, 1) := by decide +kernel
theorem dX8_copy_69 : decode cX8_copy 69 = .ok (.goto 26, 3) := by decide +kernel
theorem dX8_copy_72 : decode cX8_copy 72 = .ok (.iload 6, 2) := by decide +kernel
theorem dX8_copy_74 : decode cX8_copy 74 = .ok (.ifCond .ne 7, 3) := by decide +kernel
theorem dX8_copy_77 : decode cX8_copy 77 = .ok (.iconst 2, 1) := by decide +kernel
theorem dX8_copy_78 : decode cX8_copy 78 = .ok (.goto 17, 3) := by decide +kernel
theorem dX8_copy_81 : decode cX8_copy 81 = .ok (.aload_n 0, 1) := by decide +kernel
theorem dX8_copy_82 : decode cX8_copy 82 = .ok (.getfield 100, 3) := by decide +kernel
theorem dX8_copy_85 : decode cX8_copy 85 = .ok (.bipush 12, 2) := by decide +kernel
theorem dX8_copy_87 : decode cX8_copy 87 = .ok (.if_icmp .ne 7, 3) := by decide +kernel
theorem dX8_copy_90 : decode cX8_copy 90 = .ok (.iconst 3, 1) := by decide +kernel
theorem dX8_copy_91 : decode cX8_copy 91 = .ok (.goto 4, 3) := by decide +kernel
theorem dX8_copy_94 : decode cX8_copy 94 = .ok (.iconst 0, 1) := by decide +kernel
theorem dX8_copy_95 : decode cX8_copy 95 = .ok (.putfield 92, 3) := by decide +kernel
theorem dX8_copy_98 : decode cX8_copy 98 = .ok (.aload_n 0, 1) := by decide +kernel
theorem dX8_copy_99 : decode cX8_copy 99 = .ok (.getfield 92, 3) := by decide +kernel
theorem dX8_copy_102 : decode cX8_copy 102 = .ok (.ifCond .le 5, 3) := by decide +kernel
theorem dX8_copy_105 : decode cX8_copy 105 = .ok (.iconst 0, 1) := by decide +kernel
theorem dX8_copy_106 : decode cX8_copy 106 = .ok (.ireturn, 1) := by decide +kernel
theorem dX8_copy_107 : decode cX8_copy 107 = .ok (.iconst 0, 1) := by decide +kernel
theorem dX8_copy_108 : decode cX8_copy 108 = .ok (.istore 7, 2) := by decide +kernel
theorem dX8_copy_110 : decode cX8_copy 110 = .ok (.iload 7, 2) := by decide +kernel
theorem dX8_copy_112 : decode cX8_copy 112 = .ok (.bipush 24, 2) := by decide +kernel
theorem dX8_copy_114 : decode cX8_copy 114 = .ok (.if_icmp .ge 137, 3) := by decide +kernel
theorem dX8_copy_117 : decode cX8_copy 117 = .ok (.iload_n 1, 1) := by decide +kernel
theorem dX8_copy_118 : decode cX8_copy 118 = .ok (.iload 7, 2) := by decide +kernel
theorem dX8_copy_120 : decode cX8_copy 120 = .ok (.invokestatic 122, 3) := by decide +kernel
theorem dX8_copy_123 : decode cX8_copy 123 = .ok (.istore 8, 2) := by decide +kernel
theorem dX8_copy_125 : decode cX8_copy 125 = .ok (.aload_n 0, 1) := by decide +kernel
theorem dX8_copy_126 : decode cX8_copy 126 = .ok (.getfield 100, 3) := by decide +kernel
theorem dX8_copy_129 : decode cX8_copy 129 = .ok (.iload 7, 2) := by decide +kernel
theorem dX8_copy_131 : decode cX8_copy 131 = .ok (.invokestatic 122, 3) := by decide +kernel
theorem dX8_copy_134 : decode cX8_copy 134 = .ok (.istore 9, 2) := by decide +kernel
theorem dX8_copy_136 : decode cX8_copy 136 = .ok (.aload_n 0, 1) := by decide +kernel
theorem dX8_copy_137 : decode cX8_copy 137 = .ok (.getfield 46, 3) := by decide +kernel
theorem dX8_copy_140 : decode cX8_copy 140 = .ok (.iload 9, 2) := by decide +kernel
theorem dX8_copy_142 : decode cX8_copy 142 = .ok (.aload_n 0, 1) := by decide +kernel
theorem dX8_copy_143 : decode cX8_copy 143 = .ok (.getfield 46, 3) := by decide +kernel
theorem dX8_copy_146 : decode cX8_copy 146 = .ok (.iload 8, 2) := by decide +kernel
theorem dX8_copy_148 : decode cX8_copy 148 = .ok (.baload, 1) := by decide +kernel
theorem dX8_copy_149 : decode cX8_copy 149 = .ok (.bastore, 1) := by decide +kernel
theorem dX8_copy_150 : decode cX8_copy 150 = .ok (.aload_n 0, 1) := by decide +kernel
theorem dX8_copy_151 : decode cX8_copy 151 = .ok (.getfield 50, 3) := by decide +kernel
theorem dX8_copy_154 : decode cX8_copy 154 = .ok (.iload 9, 2) := by decide +kernel
theorem dX8_copy_156 : decode cX8_copy 156 = .ok (.aload_n 0, 1) := by decide +kernel
theorem dX8_copy_157 : decode cX8_copy 157 = .ok (.getfield 50, 3) := by decide +kernel
theorem dX8_copy_160 : decode cX8_copy 160 = .ok (.iload 8, 2) := by decide +kernel
theorem dX8_copy_162 : decode cX8_copy 162 = .ok (.iaload, 1) := by decide +kernel
theorem dX8_copy_163 : decode cX8_copy 163 = .ok (.iload_n 3, 1) := by decide +kernel
theorem dX8_copy_164 : decode cX8_copy 164 = .ok (.aload_n 0, 1) := by decide +kernel
theorem dX8_copy_165 : decode cX8_copy 165 = .ok (.getfield 62, 3) := by decide +kernel
theorem dX8_copy_168 : decode cX8_copy 168 = .ok (.iload_n 2, 1) := by decide +kernel
theorem dX8_copy_169 : decode cX8_copy 169 = .ok (.iaload, 1) := by decide +kernel
theorem dX8_copy_170 : decode cX8_copy 170 = .ok (.invokestatic 139, 3) := by decide +kernel
theorem dX8_copy_173 : decode cX8_copy 173 = .ok (.iastore, 1) := by decide +kernel
theorem dX8_copy_174 : decode cX8_copy 174 = .ok (.aload_n 0, 1) := by decide +kernel
theorem dX8_copy_175 : decode cX8_copy 175 = .ok (.getfield 53, 3) := by decide +kernel
theorem dX8_copy_178 : decode cX8_copy 178 = .ok (.iload 9, 2) := by decide +kernel
theorem dX8_copy_180 : decode cX8_copy 180 = .ok (.aload_n 0, 1) := by decide +kernel
theorem dX8_copy_181 : decode cX8_copy 181 = .ok (.getfield 53, 3) := by decide +kernel
theorem dX8_copy_184 : decode cX8_copy 184 = .ok (.iload 8, 2) := by decide +kernel
theorem dX8_copy_186 : decode cX8_copy 186 = .ok (.iaload, 1) := by decide +kernel
theorem dX8_copy_187 : decode cX8_copy 187 = .ok (.iload_n 3, 1) := by decide +kernel
theorem dX8_copy_188 : decode cX8_copy 188 = .ok (.aload_n 0, 1) := by decide +kernel
theorem dX8_copy_189 : decode cX8_copy 189 = .ok (.getfield 62, 3) := by decide +kernel
theorem dX8_copy_192 : decode cX8_copy 192 = .ok (.iload_n 2, 1) := by decide +kernel
theorem dX8_copy_193 : decode cX8_copy 193 = .ok (.iaload, 1) := by decide +kernel
theorem dX8_copy_194 : decode cX8_copy 194 = .ok (.ineg, 1) := by decide +kernel
theorem dX8_copy_195 : decode cX8_copy 195 = .ok (.invokestatic 139, 3) := by decide +kernel
theorem dX8_copy_198 : decode cX8_copy 198 = .ok (.iastore, 1) := by decide +kernel
theorem dX8_copy_199 : decode cX8_copy 199 = .ok (.aload_n 0, 1) := by decide +kernel
theorem dX8_copy_200 : decode cX8_copy 200 = .ok (.getfield 56, 3) := by decide +kernel
theorem dX8_copy_203 : decode cX8_copy 203 = .ok (.iload 9, 2) := by decide +kernel
theorem dX8_copy_205 : decode cX8_copy 205 = .ok (.aload_n 0, 1) := by decide +kernel
theorem dX8_copy_206 : decode cX8_copy 206 = .ok (.getfield 65, 3) := by decide +kernel
theorem dX8_copy_209 : decode cX8_copy 209 = .ok (.bipush 100, 2) := by decide +kernel
theorem dX8_copy_211 : decode cX8_copy 211 = .ok (.iload_n 2, 1) := by decide +kernel
theorem dX8_copy_212 : decode cX8_copy 212 = .ok (.imul, 1) := by decide +kernel
theorem dX8_copy_213 : decode cX8_copy 213 = .ok (.aload_n 0, 1) := by decide +kernel
theorem dX8_copy_214 : decode cX8_copy 214 = .ok (.getfield 56, 3) := by decide +kernel
theorem dX8_copy_217 : decode cX8_copy 217 = .ok (.iload 8, 2) := by decide +kernel
theorem dX8_copy_219 : decode cX8_copy 219 = .ok (.iaload, 1) := by decide +kernel
theorem dX8_copy_220 : decode cX8_copy 220 = .ok (.iadd, 1) := by decide +kernel
theorem dX8_copy_221 : decode cX8_copy 221 = .ok (.iaload, 1) := by decide +kernel
theorem dX8_copy_222 : decode cX8_copy 222 = .ok (.iastore, 1) := by decide +kernel
theorem dX8_copy_223 : decode cX8_copy 223 = .ok (.aload_n 0, 1) := by decide +kernel
theorem dX8_copy_224 : decode cX8_copy 224 = .ok (.getfield 59, 3) := by decide +kernel
theorem dX8_copy_227 : decode cX8_copy 227 = .ok (.iload 9, 2) := by decide +kernel
theorem dX8_copy_229 : decode cX8_copy 229 = .ok (.aload_n 0, 1) := by decide +kernel
theorem dX8_copy_230 : decode cX8_copy 230 = .ok (.getfield 46, 3) := by decide +kernel
theorem dX8_copy_233 : decode cX8_copy 233 = .ok (.iload 8, 2) := by decide +kernel
theorem dX8_copy_235 : decode cX8_copy 235 = .ok (.baload, 1) := by decide +kernel
theorem dX8_copy_236 : decode cX8_copy 236 = .ok (.ifCond .eq 7, 3) := by decide +kernel
theorem dX8_copy_239 : decode cX8_copy 239 = .ok (.iload_n 1, 1) := by decide +kernel
theorem dX8_copy_240 : decode cX8_copy 240 = .ok (.goto 4, 3) := by decide +kernel
theorem dX8_copy_243 : decode cX8_copy 243 = .ok (.iconst (-1), 1) := by decide +kernel
theorem dX8_copy_244 : decode cX8_copy 244 = .ok (.iastore, 1) := by decide +kernel
theorem dX8_copy_245 : decode cX8_copy 245 = .ok (.iinc 7 1, 3) := by decide +kernel
theorem dX8_copy_248 : decode cX8_copy 248 = .ok (.goto (-138), 3) := by decide +kernel
theorem dX8_copy_251 : decode cX8_copy 251 = .ok (.iconst 0, 1) := by decide +kernel
theorem dX8_copy_252 : decode cX8_copy 252 = .ok (.istore 7, 2) := by decide +kernel
theorem dX8_copy_254 : decode cX8_copy 254 = .ok (.iload 7, 2) := by decide +kernel
theorem dX8_copy_256 : decode cX8_copy 256 = .ok (.iconst 3, 1) := by decide +kernel
theorem dX8_copy_257 : decode cX8_copy 257 = .ok (.if_icmp .ge 34, 3) := by decide +kernel
theorem dX8_copy_260 : decode cX8_copy 260 = .ok (.aload_n 0, 1) := by decide +kernel
theorem dX8_copy_261 : decode cX8_copy 261 = .ok (.getfield 43, 3) := by decide +kernel
theorem dX8_copy_264 : decode cX8_copy 264 = .ok (.iconst 3, 1) := by decide +kernel
theorem dX8_copy_265 : decode cX8_copy 265 = .ok (.aload_n 0, 1) := by decide +kernel
theorem dX8_copy_266 : decode cX8_copy 266 = .ok (.getfield 100, 3) := by decide +kernel
theorem dX8_copy_269 : decode cX8_copy 269 = .ok (.imul, 1) := by decide +kernel
theorem dX8_copy_270 : decode cX8_copy 270 = .ok (.iload 7, 2) := by decide +kernel
theorem dX8_copy_272 : decode cX8_copy 272 = .ok (.iadd, 1) := by decide +kernel
theorem dX8_copy_273 : decode cX8_copy 273 = .ok (.aload_n 0, 1) := by decide +kernel
theorem dX8_copy_274 : decode cX8_copy 274 = .ok (.getfield 43, 3) := by decide +kernel
theorem dX8_copy_277 : decode cX8_copy 277 = .ok (.iconst 3, 1) := by decide +kernel
theorem dX8_copy_278 : decode cX8_copy 278 = .ok (.iload_n 1, 1) := by decide +kernel
theorem dX8_copy_279 : decode cX8_copy 279 = .ok (.imul, 1) := by decide +kernel
theorem dX8_copy_280 : decode cX8_copy 280 = .ok (.iload 7, 2) := by decide +kernel
theorem dX8_copy_282 : decode cX8_copy 282 = .ok (.iadd, 1) := by decide +kernel
theorem dX8_copy_283 : decode cX8_copy 283 = .ok (.iaload, 1) := by decide +kernel
theorem dX8_copy_284 : decode cX8_copy 284 = .ok (.iastore, 1) := by decide +kernel
theorem dX8_copy_285 : decode cX8_copy 285 = .ok (.iinc 7 1, 3) := by decide +kernel
theorem dX8_copy_288 : decode cX8_copy 288 = .ok (.goto (-34), 3) := by decide +kernel
theorem dX8_copy_291 : decode cX8_copy 291 = .ok (.iconst 0, 1) := by decide +kernel
theorem dX8_copy_292 : decode cX8_copy 292 = .ok (.istore 7, 2) := by decide +kernel
theorem dX8_copy_294 : decode cX8_copy 294 = .ok (.iload 7, 2) := by decide +kernel
theorem dX8_copy_296 : decode cX8_copy 296 = .ok (.aload_n 0, 1) := by decide +kernel
theorem dX8_copy_297 : decode cX8_copy 297 = .ok (.getfield 103, 3) := by decide +kernel
theorem dX8_copy_300 : decode cX8_copy 300 = .ok (.if_icmp .ge 36, 3) := by decide +kernel
theorem dX8_copy_303 : decode cX8_copy 303 = .ok (.aload_n 0, 1) := by decide +kernel
theorem dX8_copy_304 : decode cX8_copy 304 = .ok (.getfield 77, 3) := by decide +kernel
theorem dX8_copy_307 : decode cX8_copy 307 = .ok (.bipush 20, 2) := by decide +kernel
theorem dX8_copy_309 : decode cX8_copy 309 = .ok (.aload_n 0, 1) := by decide +kernel
theorem dX8_copy_310 : decode cX8_copy 310 = .ok (.getfield 100, 3) := by decide +kernel
theorem dX8_copy_313 : decode cX8_copy 313 = .ok (.imul, 1) := by decide +kernel
theorem dX8_copy_314 : decode cX8_copy 314 = .ok (.iload 7, 2) := by decide +kernel
theorem dX8_copy_316 : decode cX8_copy 316 = .ok (.iadd, 1) := by decide +kernel
theorem dX8_copy_317 : decode cX8_copy 317 = .ok (.aload_n 0, 1) := by decide +kernel
theorem dX8_copy_318 : decode cX8_copy 318 = .ok (.getfield 77, 3) := by decide +kernel
theorem dX8_copy_321 : decode cX8_copy 321 = .ok (.bipush 20, 2) := by decide +kernel
theorem dX8_copy_323 : decode cX8_copy 323 = .ok (.iload_n 1, 1) := by decide +kernel
theorem dX8_copy_324 : decode cX8_copy 324 = .ok (.imul, 1) := by decide +kernel
theorem dX8_copy_325 : decode cX8_copy 325 = .ok (.iload 7, 2) := by decide +kernel
theorem dX8_copy_327 : decode cX8_copy 327 = .ok (.iadd, 1) := by decide +kernel
theorem dX8_copy_328 : decode cX8_copy 328 = .ok (.baload, 1) := by decide +kernel
theorem dX8_copy_329 : decode cX8_copy 329 = .ok (.bastore, 1) := by decide +kernel
theorem dX8_copy_330 : decode cX8_copy 330 = .ok (.iinc 7 1, 3) := by decide +kernel
theorem dX8_copy_333 : decode cX8_copy 333 = .ok (.goto (-39), 3) := by decide +kernel
theorem dX8_copy_336 : decode cX8_copy 336 = .ok (.aload_n 0, 1) := by decide +kernel
theorem dX8_copy_337 : decode cX8_copy 337 = .ok (.getfield 40, 3) := by decide +kernel
theorem dX8_copy_340 : decode cX8_copy 340 = .ok (.aload_n 0, 1) := by decide +kernel
theorem dX8_copy_341 : decode cX8_copy 341 = .ok (.getfield 100, 3) := by decide +kernel
theorem dX8_copy_344 : decode cX8_copy 344 = .ok (.iload 4, 2) := by decide +kernel
theorem dX8_copy_346 : decode cX8_copy 346 = .ok (.iastore, 1) := by decide +kernel
theorem dX8_copy_347 : decode cX8_copy 347 = .ok (.aload_n 0, 1) := by decide +kernel
theorem dX8_copy_348 : decode cX8_copy 348 = .ok (.dup, 1) := by decide +kernel
theorem dX8_copy_349 : decode cX8_copy 349 = .ok (.getfield 100, 3) := by decide +kernel
theorem dX8_copy_352 : decode cX8_copy 352 = .ok (.iconst 1, 1) := by decide +kernel
theorem dX8_copy_353 : decode cX8_copy 353 = .ok (.iadd, 1) := by decide +kernel
theorem dX8_copy_354 : decode cX8_copy 354 = .ok (.putfield 100, 3) := by decide +kernel
theorem dX8_copy_357 : decode cX8_copy 357 = .ok (.aload_n 0, 1) := by decide +kernel
theorem dX8_copy_358 : decode cX8_copy 358 = .ok (.getfield 100, 3) := by decide +kernel
theorem dX8_copy_361 : decode cX8_copy 361 = .ok (.iconst 1, 1) := by decide +kernel
theorem dX8_copy_362 : decode cX8_copy 362 = .ok (.isub, 1) := by decide +kernel
theorem dX8_copy_363 : decode cX8_copy 363 = .ok (.ireturn, 1) := by decide +kernel
theorem dX8_isInChain_0 : decode cX8_isInChain 0 = .ok (.aload_n 0, 1) := by decide +kernel
theorem dX8_isInChain_1 : decode cX8_isInChain 1 = .ok (.getfield 46, 3) := by decide +kernel
theorem dX8_isInChain_4 : decode cX8_isInChain 4 = .ok (.iload_n 2, 1) := by decide +kernel
theorem dX8_isInChain_5 : decode cX8_isInChain 5 = .ok (.iload_n 3, 1) := by decide +kernel
theorem dX8_isInChain_6 : decode cX8_isInChain 6 = .ok (.invokestatic 122, 3) := by decide +kernel
theorem dX8_isInChain_9 : decode cX8_isInChain 9 = .ok (.baload, 1) := by decide +kernel
theorem dX8_isInChain_10 : decode cX8_isInChain 10 = .ok (.ifCond .eq 7, 3) := by decide +kernel
theorem dX8_isInChain_13 : decode cX8_isInChain 13 = .ok (.iload_n 2, 1) := by decide +kernel
theorem dX8_isInChain_14 : decode cX8_isInChain 14 = .ok (.goto 4, 3) := by decide +kernel
theorem dX8_isInChain_17 : decode cX8_isInChain 17 = .ok (.iconst (-1), 1) := by decide +kernel
theorem dX8_isInChain_18 : decode cX8_isInChain 18 = .ok (.istore 4, 2) := by decide +kernel
theorem dX8_isInChain_20 : decode cX8_isInChain 20 = .ok (.iload 4, 2) := by decide +kernel
theorem dX8_isInChain_22 : decode cX8_isInChain 22 = .ok (.iconst (-1), 1) := by decide +kernel
theorem dX8_isInChain_23 : decode cX8_isInChain 23 = .ok (.if_icmp .eq 21, 3) := by decide +kernel
theorem dX8_isInChain_26 : decode cX8_isInChain 26 = .ok (.iload 4, 2) := by decide +kernel
theorem dX8_isInChain_28 : decode cX8_isInChain 28 = .ok (.iload_n 1, 1) := by decide +kernel
theorem dX8_isInChain_29 : decode cX8_isInChain 29 = .ok (.if_icmp .eq 15, 3) := by decide +kernel
theorem dX8_isInChain_32 : decode cX8_isInChain 32 = .ok (.aload_n 0, 1) := by decide +kernel
theorem dX8_isInChain_33 : decode cX8_isInChain 33 = .ok (.iload 4, 2) := by decide +kernel
theorem dX8_isInChain_35 : decode cX8_isInChain 35 = .ok (.iload_n 3, 1) := by decide +kernel
theorem dX8_isInChain_36 : decode cX8_isInChain 36 = .ok (.invokevirtual 143, 3) := by decide +kernel
theorem dX8_isInChain_39 : decode cX8_isInChain 39 = .ok (.istore 4, 2) := by decide +kernel
theorem dX8_isInChain_41 : decode cX8_isInChain 41 = .ok (.goto (-21), 3) := by decide +kernel
theorem dX8_isInChain_44 : decode cX8_isInChain 44 = .ok (.iload 4, 2) := by decide +kernel
theorem dX8_isInChain_46 : decode cX8_isInChain 46 = .ok (.iload_n 1, 1) := by decide +kernel
theorem dX8_isInChain_47 : decode cX8_isInChain 47 = .ok (.if_icmp .ne 7, 3) := by decide +kernel
theorem dX8_isInChain_50 : decode cX8_isInChain 50 = .ok (.iconst 1, 1) := by decide +kernel
theorem dX8_isInChain_51 : decode cX8_isInChain 51 = .ok (.goto 4, 3) := by decide +kernel
theorem dX8_isInChain_54 : decode cX8_isInChain 54 = .ok (.iconst 0, 1) := by decide +kernel
theorem dX8_isInChain_55 : decode cX8_isInChain 55 = .ok (.ireturn, 1) := by decide +kernel
theorem dX8_next_0 : decode cX8_next 0 = .ok (.aload_n 0, 1) := by decide +kernel
theorem dX8_next_1 : decode cX8_next 1 = .ok (.getfield 46, 3) := by decide +kernel
theorem dX8_next_4 : decode cX8_next 4 = .ok (.iload_n 1, 1) := by decide +kernel
theorem dX8_next_5 : decode cX8_next 5 = .ok (.iload_n 2, 1) := by decide +kernel
theorem dX8_next_6 : decode cX8_next 6 = .ok (.invokestatic 122, 3) := by decide +kernel
theorem dX8_next_9 : decode cX8_next 9 = .ok (.baload, 1) := by decide +kernel
theorem dX8_next_10 : decode cX8_next 10 = .ok (.ifCond .eq 16, 3) := by decide +kernel
theorem dX8_next_13 : decode cX8_next 13 = .ok (.aload_n 0, 1) := by decide +kernel
theorem dX8_next_14 : decode cX8_next 14 = .ok (.getfield 59, 3) := by decide +kernel
theorem dX8_next_17 : decode cX8_next 17 = .ok (.iload_n 1, 1) := by decide +kernel
theorem dX8_next_18 : decode cX8_next 18 = .ok (.iload_n 2, 1) := by decide +kernel
theorem dX8_next_19 : decode cX8_next 19 = .ok (.invokestatic 122, 3) := by decide +kernel
theorem dX8_next_22 : decode cX8_next 22 = .ok (.iaload, 1) := by decide +kernel
theorem dX8_next_23 : decode cX8_next 23 = .ok (.goto 4, 3) := by decide +kernel
theorem dX8_next_26 : decode cX8_next 26 = .ok (.iconst (-1), 1) := by decide +kernel
theorem dX8_next_27 : decode cX8_next 27 = .ok (.ireturn, 1) := by decide +kernel
theorem dX8_isNear_0 : decode cX8_isNear 0 = .ok (.aload_n 0, 1) := by decide +kernel
theorem dX8_isNear_1 : decode cX8_isNear 1 = .ok (.getfield 46, 3) := by decide +kernel
theorem dX8_isNear_4 : decode cX8_isNear 4 = .ok (.iload_n 1, 1) := by decide +kernel
theorem dX8_isNear_5 : decode cX8_isNear 5 = .ok (.baload, 1) := by decide +kernel
theorem dX8_isNear_6 : decode cX8_isNear 6 = .ok (.ifCond .eq 43, 3) := by decide +kernel
theorem dX8_isNear_9 : decode cX8_isNear 9 = .ok (.aload_n 0, 1) := by decide +kernel
theorem dX8_isNear_10 : decode cX8_isNear 10 = .ok (.getfield 50, 3) := by decide +kernel
theorem dX8_isNear_13 : decode cX8_isNear 13 = .ok (.iload_n 1, 1) := by decide +kernel
theorem dX8_isNear_14 : decode cX8_isNear 14 = .ok (.iaload, 1) := by decide +kernel
theorem dX8_isNear_15 : decode cX8_isNear 15 = .ok (.iload_n 2, 1) := by decide +kernel
theorem dX8_isNear_16 : decode cX8_isNear 16 = .ok (.iadd, 1) := by decide +kernel
theorem dX8_isNear_17 : decode cX8_isNear 17 = .ok (.sipush (-9999), 3) := by decide +kernel
theorem dX8_isNear_20 : decode cX8_isNear 20 = .ok (.sipush 9999, 3) := by decide +kernel
theorem dX8_isNear_23 : decode cX8_isNear 23 = .ok (.invokestatic 96, 3) := by decide +kernel
theorem dX8_isNear_26 : decode cX8_isNear 26 = .ok (.ifCond .eq 27, 3) := by decide +kernel
theorem dX8_isNear_29 : decode cX8_isNear 29 = .ok (.aload_n 0, 1) := by decide +kernel
theorem dX8_isNear_30 : decode cX8_isNear 30 = .ok (.getfield 53, 3) := by decide +kernel
theorem dX8_isNear_33 : decode cX8_isNear 33 = .ok (.iload_n 1, 1) := by decide +kernel
theorem dX8_isNear_34 : decode cX8_isNear 34 = .ok (.iaload, 1) := by decide +kernel
theorem dX8_isNear_35 : decode cX8_isNear 35 = .ok (.iload_n 3, 1) := by decide +kernel
theorem dX8_isNear_36 : decode cX8_isNear 36 = .ok (.iadd, 1) := by decide +kernel
theorem dX8_isNear_37 : decode cX8_isNear 37 = .ok (.sipush (-9999), 3) := by decide +kernel
theorem dX8_isNear_40 : decode cX8_isNear 40 = .ok (.sipush 9999, 3) := by decide +kernel
theorem dX8_isNear_43 : decode cX8_isNear 43 = .ok (.invokestatic 96, 3) := by decide +kernel
theorem dX8_isNear_46 : decode cX8_isNear 46 = .ok (.ifCond .eq 7, 3) := by decide +kernel
theorem dX8_isNear_49 : decode cX8_isNear 49 = .ok (.iconst 1, 1) := by decide +kernel
theorem dX8_isNear_50 : decode cX8_isNear 50 = .ok (.goto 4, 3) := by decide +kernel
theorem dX8_isNear_53 : decode cX8_isNear 53 = .ok (.iconst 0, 1) := by decide +kernel
theorem dX8_isNear_54 : decode cX8_isNear 54 = .ok (.ireturn, 1) := by decide +kernel
theorem dX8_paste_0 : decode cX8_paste 0 = .ok (.aload_n 0, 1) := by decide +kernel
theorem dX8_paste_1 : decode cX8_paste 1 = .ok (.iload_n 1, 1) := by decide +kernel
theorem dX8_paste_2 : decode cX8_paste 2 = .ok (.invokevirtual 136, 3) := by decide +kernel
theorem dX8_paste_5 : decode cX8_paste 5 = .ok (.ifCond .eq 30, 3) := by decide +kernel
theorem dX8_paste_8 : decode cX8_paste 8 = .ok (.aload_n 0, 1) := by decide +kernel
theorem dX8_paste_9 : decode cX8_paste 9 = .ok (.iload_n 2, 1) := by decide +kernel
theorem dX8_paste_10 : decode cX8_paste 10 = .ok (.invokevirtual 136, 3) := by decide +kernel
theorem dX8_paste_13 : decode cX8_paste 13 = .ok (.ifCond .eq 22, 3) := by decide +kernel
theorem dX8_paste_16 : decode cX8_paste 16 = .ok (.iload_n 3, 1) := by decide +kernel
theorem dX8_paste_17 : decode cX8_paste 17 = .ok (.invokestatic 113, 3) := by decide +kernel
theorem dX8_paste_20 : decode cX8_paste 20 = .ok (.ifCond .eq 15, 3) := by decide +kernel
theorem dX8_paste_23 : decode cX8_paste 23 = .ok (.iload 4, 2) := by decide +kernel
theorem dX8_paste_25 : decode cX8_paste 25 = .ok (.invokestatic 113, 3) := by decide +kernel
theorem dX8_paste_28 : decode cX8_paste 28 = .ok (.ifCond .eq 7, 3) := by decide +kernel
theorem dX8_paste_31 : decode cX8_paste 31 = .ok (.iconst 1, 1) := by decide +kernel
theorem dX8_paste_32 : decode cX8_paste 32 = .ok (.goto 4, 3) := by decide +kernel
theorem dX8_paste_35 : decode cX8_paste 35 = .ok (.iconst 0, 1) := by decide +kernel
theorem dX8_paste_36 : decode cX8_paste 36 = .ok (.istore 5, 2) := by decide +kernel
theorem dX8_paste_38 : decode cX8_paste 38 = .ok (.iload 5, 2) := by decide +kernel
theorem dX8_paste_40 : decode cX8_paste 40 = .ok (.ifCond .eq 18, 3) := by decide +kernel
theorem dX8_paste_43 : decode cX8_paste 43 = .ok (.iload_n 1, 1) := by decide +kernel
theorem dX8_paste_44 : decode cX8_paste 44 = .ok (.iload_n 2, 1) := by decide +kernel
theorem dX8_paste_45 : decode cX8_paste 45 = .ok (.if_icmp .eq 13, 3) := by decide +kernel
theorem dX8_paste_48 : decode cX8_paste 48 = .ok (.iload 4, 2) := by decide +kernel
theorem dX8_paste_50 : decode cX8_paste 50 = .ok (.iload_n 3, 1) := by decide +kernel
theorem dX8_paste_51 : decode cX8_paste 51 = .ok (.if_icmp .lt 7, 3) := by decide +kernel
theorem dX8_paste_54 : decode cX8_paste 54 = .ok (.iconst 1, 1) := by decide +kernel
theorem dX8_paste_55 : decode cX8_paste 55 = .ok (.goto 4, 3) := by decide +kernel
theorem dX8_paste_58 : decode cX8_paste 58 = .ok (.iconst 0, 1) := by decide +kernel
theorem dX8_paste_59 : decode cX8_paste 59 = .ok (.istore 6, 2) := by decide +kernel
theorem dX8_paste_61 : decode cX8_paste 61 = .ok (.iload 6, 2) := by decide +kernel
theorem dX8_paste_63 : decode cX8_paste 63 = .ok (.ifCond .eq 33, 3) := by decide +kernel
theorem dX8_paste_66 : decode cX8_paste 66 = .ok (.aload_n 0, 1) := by decide +kernel
theorem dX8_paste_67 : decode cX8_paste 67 = .ok (.getfield 46, 3) := by decide +kernel
theorem dX8_paste_70 : decode cX8_paste 70 = .ok (.iload_n 1, 1) := by decide +kernel
theorem dX8_paste_71 : decode cX8_paste 71 = .ok (.iload_n 3, 1) := by decide +kernel
theorem dX8_paste_72 : decode cX8_paste 72 = .ok (.invokestatic 122, 3) := by decide +kernel
theorem dX8_paste_75 : decode cX8_paste 75 = .ok (.baload, 1) := by decide +kernel
theorem dX8_paste_76 : decode cX8_paste 76 = .ok (.ifCond .eq 20, 3) := by decide +kernel
theorem dX8_paste_79 : decode cX8_paste 79 = .ok (.aload_n 0, 1) := by decide +kernel
theorem dX8_paste_80 : decode cX8_paste 80 = .ok (.getfield 46, 3) := by decide +kernel
theorem dX8_paste_83 : decode cX8_paste 83 = .ok (.iload_n 2, 1) := by decide +kernel
theorem dX8_paste_84 : decode cX8_paste 84 = .ok (.iload_n 3, 1) := by decide +kernel
theorem dX8_paste_85 : decode cX8_paste 85 = .ok (.invokestatic 122, 3) := by decide +kernel
theorem dX8_paste_88 : decode cX8_paste 88 = .ok (.baload, 1) := by decide +kernel
theorem dX8_paste_89 : decode cX8_paste 89 = .ok (.ifCond .eq 7, 3) := by decide +kernel
theorem dX8_paste_92 : decode cX8_paste 92 = .ok (.iconst 1, 1) := by decide +kernel
theorem dX8_paste_93 : decode cX8_paste 93 = .ok (.goto 4, 3) := by decide +kernel
theorem dX8_paste_96 : decode cX8_paste 96 = .ok (.iconst 0, 1) := by decide +kernel
theorem dX8_paste_97 : decode cX8_paste 97 = .ok (.istore 7, 2) := by decide +kernel
theorem dX8_paste_99 : decode cX8_paste 99 = .ok (.iload 7, 2) := by decide +kernel
theorem dX8_paste_101 : decode cX8_paste 101 = .ok (.ifCond .eq 27, 3) := by decide +kernel
theorem dX8_paste_104 : decode cX8_paste 104 = .ok (.aload_n 0, 1) := by decide +kernel
theorem dX8_paste_105 : decode cX8_paste 105 = .ok (.getfield 50, 3) := by decide +kernel
theorem dX8_paste_108 : decode cX8_paste 108 = .ok (.iload_n 1, 1) := by decide +kernel
theorem dX8_paste_109 : decode cX8_paste 109 = .ok (.iload_n 3, 1) := by decide +kernel
theorem dX8_paste_110 : decode cX8_paste 110 = .ok (.invokestatic 122, 3) := by decide +kernel
theorem dX8_paste_113 : decode cX8_paste 113 = .ok (.iaload, 1) := by decide +kernel
theorem dX8_paste_114 : decode cX8_paste 114 = .ok (.aload_n 0, 1) := by decide +kernel
theorem dX8_paste_115 : decode cX8_paste 115 = .ok (.getfield 50, 3) := by decide +kernel
theorem dX8_paste_118 : decode cX8_paste 118 = .ok (.iload_n 2, 1) := by decide +kernel
theorem dX8_paste_119 : decode cX8_paste 119 = .ok (.iload_n 3, 1) := by decide +kernel
theorem dX8_paste_120 : decode cX8_paste 120 = .ok (.invokestatic 122, 3) := by decide +kernel
theorem dX8_paste_123 : decode cX8_paste 123 = .ok (.iaload, 1) := by decide +kernel
theorem dX8_paste_124 : decode cX8_paste 124 = .ok (.isub, 1) := by decide +kernel
theorem dX8_paste_125 : decode cX8_paste 125 = .ok (.goto 4, 3) := by decide +kernel
theorem dX8_paste_128 : decode cX8_paste 128 = .ok (.iconst 0, 1) := by decide +kernel
theorem dX8_paste_129 : decode cX8_paste 129 = .ok (.istore 8, 2) := by decide +kernel
theorem dX8_paste_131 : decode cX8_paste 131 = .ok (.iload 7, 2) := by decide +kernel
theorem dX8_paste_133 : decode cX8_paste 133 = .ok (.ifCond .eq 27, 3) := by decide +kernel
theorem dX8_paste_136 : decode cX8_paste 136 = .ok (.aload_n 0, 1) := by decide +kernel
theorem dX8_paste_137 : decode cX8_paste 137 = .ok (.getfield 53, 3) := by decide +kernel
theorem dX8_paste_140 : decode cX8_paste 140 = .ok (.iload_n 1, 1) := by decide +kernel
theorem dX8_paste_141 : decode cX8_paste 141 = .ok (.iload_n 3, 1) := by decide +kernel
theorem dX8_paste_142 : decode cX8_paste 142 = .ok (.invokestatic 122, 3) := by decide +kernel
theorem dX8_paste_145 : decode cX8_paste 145 = .ok (.iaload, 1) := by decide +kernel
theorem dX8_paste_146 : decode cX8_paste 146 = .ok (.aload_n 0, 1) := by decide +kernel
theorem dX8_paste_147 : decode cX8_paste 147 = .ok (.getfield 53, 3) := by decide +kernel
theorem dX8_paste_150 : decode cX8_paste 150 = .ok (.iload_n 2, 1) := by decide +kernel
theorem dX8_paste_151 : decode cX8_paste 151 = .ok (.iload_n 3, 1) := by decide +kernel
theorem dX8_paste_152 : decode cX8_paste 152 = .ok (.invokestatic 122, 3) := by decide +kernel
theorem dX8_paste_155 : decode cX8_paste 155 = .ok (.iaload, 1) := by decide +kernel
theorem dX8_paste_156 : decode cX8_paste 156 = .ok (.isub, 1) := by decide +kernel
theorem dX8_paste_157 : decode cX8_paste 157 = .ok (.goto 4, 3) := by decide +kernel
theorem dX8_paste_160 : decode cX8_paste 160 = .ok (.iconst 0, 1) := by decide +kernel
theorem dX8_paste_161 : decode cX8_paste 161 = .ok (.istore 9, 2) := by decide +kernel
theorem dX8_paste_163 : decode cX8_paste 163 = .ok (.iload 6, 2) := by decide +kernel
theorem dX8_paste_165 : decode cX8_paste 165 = .ok (.ifCond .eq 22, 3) := by decide +kernel
theorem dX8_paste_168 : decode cX8_paste 168 = .ok (.aload_n 0, 1) := by decide +kernel
theorem dX8_paste_169 : decode cX8_paste 169 = .ok (.getfield 40, 3) := by decide +kernel
theorem dX8_paste_172 : decode cX8_paste 172 = .ok (.iload_n 2, 1) := by decide +kernel
theorem dX8_paste_173 : decode cX8_paste 173 = .ok (.iaload, 1) := by decide +kernel
theorem dX8_paste_174 : decode cX8_paste 174 = .ok (.aload_n 0, 1) := by decide +kernel
theorem dX8_paste_175 : decode cX8_paste 175 = .ok (.getfield 40, 3) := by decide +kernel
theorem dX8_paste_178 : decode cX8_paste 178 = .ok (.iload_n 1, 1) := by decide +kernel
theorem dX8_paste_179 : decode cX8_paste 179 = .ok (.iaload, 1) := by decide +kernel
theorem dX8_paste_180 : decode cX8_paste 180 = .ok (.if_icmp .gt 7, 3) := by decide +kernel
theorem dX8_paste_183 : decode cX8_paste 183 = .ok (.iconst 1, 1) := by decide +kernel
theorem dX8_paste_184 : decode cX8_paste 184 = .ok (.goto 4, 3) := by decide +kernel
theorem dX8_paste_187 : decode cX8_paste 187 = .ok (.iconst 0, 1) := by decide +kernel
theorem dX8_paste_188 : decode cX8_paste 188 = .ok (.istore 10, 2) := by decide +kernel
theorem dX8_paste_190 : decode cX8_paste 190 = .ok (.iload_n 3, 1) := by decide +kernel
theorem dX8_paste_191 : decode cX8_paste 191 = .ok (.istore 11, 2) := by decide +kernel
theorem dX8_paste_193 : decode cX8_paste 193 = .ok (.iload 10, 2) := by decide +kernel
theorem dX8_paste_195 : decode cX8_paste 195 = .ok (.ifCond .eq 51, 3) := by decide +kernel
theorem dX8_paste_198 : decode cX8_paste 198 = .ok (.iload 11, 2) := by decide +kernel
theorem dX8_paste_200 : decode cX8_paste 200 = .ok (.iload 4, 2) := by decide +kernel
theorem dX8_paste_202 : decode cX8_paste 202 = .ok (.if_icmp .gt 44, 3) := by decide +kernel
theorem dX8_paste_205 : decode cX8_paste 205 = .ok (.aload_n 0, 1) := by decide +kernel
theorem dX8_paste_206 : decode cX8_paste 206 = .ok (.iload_n 1, 1) := by decide +kernel
theorem dX8_paste_207 : decode cX8_paste 207 = .ok (.iload_n 2, 1) := by decide +kernel
theorem dX8_paste_208 : decode cX8_paste 208 = .ok (.iload 11, 2) := by decide +kernel
theorem dX8_paste_210 : decode cX8_paste 210 = .ok (.invokevirtual 146, 3) := by decide +kernel
theorem dX8_paste_213 : decode cX8_paste 213 = .ok (.ifCond .ne 24, 3) := by decide +kernel
theorem dX8_paste_216 : decode cX8_paste 216 = .ok (.aload_n 0, 1) := by decide +kernel
theorem dX8_paste_217 : decode cX8_paste 217 = .ok (.iload_n 2, 1) := by decide +kernel
theorem dX8_paste_218 : decode cX8_paste 218 = .ok (.iload 11, 2) := by decide +kernel
theorem dX8_paste_220 : decode cX8_paste 220 = .ok (.invokestatic 122, 3) := by decide +kernel
theorem dX8_paste_223 : decode cX8_paste 223 = .ok (.iload 8, 2) := by decide +kernel
theorem dX8_paste_225 : decode cX8_paste 225 = .ok (.iload 9, 2) := by decide +kernel
theorem dX8_paste_227 : decode cX8_paste 227 = .ok (.invokevirtual 149, 3) := by decide +kernel
theorem dX8_paste_230 : decode cX8_paste 230 = .ok (.ifCond .eq 7, 3) := by decide +kernel
theorem dX8_paste_233 : decode cX8_paste 233 = .ok (.iconst 1, 1) := by decide +kernel
theorem dX8_paste_234 : decode cX8_paste 234 = .ok (.goto 4, 3) := by decide +kernel
theorem dX8_paste_237 : decode cX8_paste 237 = .ok (.iconst 0, 1) := by decide +kernel
theorem dX8_paste_238 : decode cX8_paste 238 = .ok (.istore 10, 2) := by decide +kernel
theorem dX8_paste_240 : decode cX8_paste 240 = .ok (.iinc 11 1, 3) := by decide +kernel
theorem dX8_paste_243 : decode cX8_paste 243 = .ok (.goto (-50), 3) := by decide +kernel
theorem dX8_paste_246 : decode cX8_paste 246 = .ok (.aload_n 0, 1) := by decide +kernel
theorem dX8_paste_247 : decode cX8_paste 247 = .ok (.iload 5, 2) := by decide +kernel
theorem dX8_paste_249 : decode cX8_paste 249 = .ok (.ifCond .ne 7, 3) := by decide +kernel
theorem dX8_paste_252 : decode cX8_paste 252 = .ok (.iconst 1, 1) := by decide +kernel
theorem dX8_paste_253 : decode cX8_paste 253 = .ok (.goto 22, 3) := by decide +kernel
theorem dX8_paste_256 : decode cX8_paste 256 = .ok (.iload 6, 2) := by decide +kernel
theorem dX8_paste_258 : decode cX8_paste 258 = .ok (.ifCond .ne 7, 3) := by decide +kernel
theorem dX8_paste_261 : decode cX8_paste 261 = .ok (.iconst 2, 1) := by decide +kernel
theorem dX8_paste_262 : decode cX8_paste 262 = .ok (.goto 13, 3) := by decide +kernel
theorem dX8_paste_265 : decode cX8_paste 265 = .ok (.iload 10, 2) := by decide +kernel
theorem dX8_paste_267 : decode cX8_paste 267 = .ok (.ifCond .ne 7, 3) := by decide +kernel
theorem dX8_paste_270 : decode cX8_paste 270 = .ok (.iconst 3, 1) := by decide +kernel
theorem dX8_paste_271 : decode cX8_paste 271 = .ok (.goto 4, 3) := by decide +kernel
theorem dX8_paste_274 : decode cX8_paste 274 = .ok (.iconst 0, 1) := by decide +kernel
theorem dX8_paste_275 : decode cX8_paste 275 = .ok (.putfield 92, 3) := by decide +kernel
theorem dX8_paste_278 : decode cX8_paste 278 = .ok (.aload_n 0, 1) := by decide +kernel
theorem dX8_paste_279 : decode cX8_paste 279 = .ok (.getfield 92, 3) := by decide +kernel
theorem dX8_paste_282 : decode cX8_paste 282 = .ok (.ifCond .le 5, 3) := by decide +kernel
theorem dX8_paste_285 : decode cX8_paste 285 = .ok (.iconst 0, 1) := by decide +kernel
theorem dX8_paste_286 : decode cX8_paste 286 = .ok (.ireturn, 1) := by decide +kernel
theorem dX8_paste_287 : decode cX8_paste 287 = .ok (.iconst 0, 1) := by decide +kernel
theorem dX8_paste_288 : decode cX8_paste 288 = .ok (.istore 11, 2) := by decide +kernel
theorem dX8_paste_290 : decode cX8_paste 290 = .ok (.iload_n 3, 1) := by decide +kernel
theorem dX8_paste_291 : decode cX8_paste 291 = .ok (.istore 12, 2) := by decide +kernel
theorem dX8_paste_293 : decode cX8_paste 293 = .ok (.iload 12, 2) := by decide +kernel
theorem dX8_paste_295 : decode cX8_paste 295 = .ok (.iload 4, 2) := by decide +kernel
theorem dX8_paste_297 : decode cX8_paste 297 = .ok (.if_icmp .gt 129, 3) := by decide +kernel
theorem dX8_paste_300 : decode cX8_paste 300 = .ok (.iload_n 2, 1) := by decide +kernel
theorem dX8_paste_301 : decode cX8_paste 301 = .ok (.iload 12, 2) := by decide +kernel
theorem dX8_paste_303 : decode cX8_paste 303 = .ok (.invokestatic 122, 3) := by decide +kernel
theorem dX8_paste_306 : decode cX8_paste 306 = .ok (.istore 13, 2) := by decide +kernel
theorem dX8_paste_308 : decode cX8_paste 308 = .ok (.iload_n 1, 1) := by decide +kernel
theorem dX8_paste_309 : decode cX8_paste 309 = .ok (.iload 12, 2) := by decide +kernel
theorem dX8_paste_311 : decode cX8_paste 311 = .ok (.invokestatic 122, 3) := by decide +kernel
theorem dX8_paste_314 : decode cX8_paste 314 = .ok (.istore 14, 2) := by decide +kernel
theorem dX8_paste_316 : decode cX8_paste 316 = .ok (.aload_n 0, 1) := by decide +kernel
theorem dX8_paste_317 : decode cX8_paste 317 = .ok (.getfield 46, 3) := by decide +kernel
theorem dX8_paste_320 : decode cX8_paste 320 = .ok (.iload 14, 2) := by decide +kernel
theorem dX8_paste_322 : decode cX8_paste 322 = .ok (.aload_n 0, 1) := by decide +kernel
theorem dX8_paste_323 : decode cX8_paste 323 = .ok (.getfield 46, 3) := by decide +kernel
theorem dX8_paste_326 : decode cX8_paste 326 = .ok (.iload 13, 2) := by decide +kernel
theorem dX8_paste_328 : decode cX8_paste 328 = .ok (.baload, 1) := by decide +kernel
theorem dX8_paste_329 : decode cX8_paste 329 = .ok (.bastore, 1) := by decide +kernel
theorem dX8_paste_330 : decode cX8_paste 330 = .ok (.aload_n 0, 1) := by decide +kernel
theorem dX8_paste_331 : decode cX8_paste 331 = .ok (.getfield 50, 3) := by decide +kernel
theorem dX8_paste_334 : decode cX8_paste 334 = .ok (.iload 14, 2) := by decide +kernel
theorem dX8_paste_336 : decode cX8_paste 336 = .ok (.aload_n 0, 1) := by decide +kernel
theorem dX8_paste_337 : decode cX8_paste 337 = .ok (.getfield 50, 3) := by decide +kernel
theorem dX8_paste_340 : decode cX8_paste 340 = .ok (.iload 13, 2) := by decide +kernel
theorem dX8_paste_342 : decode cX8_paste 342 = .ok (.iaload, 1) := by decide +kernel
theorem dX8_paste_343 : decode cX8_paste 343 = .ok (.iload 8, 2) := by decide +kernel
theorem dX8_paste_345 : decode cX8_paste 345 = .ok (.iadd, 1) := by decide +kernel
theorem dX8_paste_346 : decode cX8_paste 346 = .ok (.iastore, 1) := by decide +kernel
theorem dX8_paste_347 : decode cX8_paste 347 = .ok (.aload_n 0, 1) := by decide +kernel
theorem dX8_paste_348 : decode cX8_paste 348 = .ok (.getfield 53, 3) := by decide +kernel
theorem dX8_paste_351 : decode cX8_paste 351 = .ok (.iload 14, 2) := by decide +kernel
theorem dX8_paste_353 : decode cX8_paste 353 = .ok (.aload_n 0, 1) := by decide +kernel
theorem dX8_paste_354 : decode cX8_paste 354 = .ok (.getfield 53, 3) := by decide +kernel
theorem dX8_paste_357 : decode cX8_paste 357 = .ok (.iload 13, 2) := by decide +kernel
theorem dX8_paste_359 : decode cX8_paste 359 = .ok (.iaload, 1) := by decide +kernel
theorem dX8_paste_360 : decode cX8_paste 360 = .ok (.iload 9, 2) := by decide +kernel
theorem dX8_paste_362 : decode cX8_paste 362 = .ok (.iadd, 1) := by decide +kernel
theorem dX8_paste_363 : decode cX8_paste 363 = .ok (.iastore, 1) := by decide +kernel
theorem dX8_paste_364 : decode cX8_paste 364 = .ok (.aload_n 0, 1) := by decide +kernel
theorem dX8_paste_365 : decode cX8_paste 365 = .ok (.getfield 56, 3) := by decide +kernel
theorem dX8_paste_368 : decode cX8_paste 368 = .ok (.iload 14, 2) := by decide +kernel
theorem dX8_paste_370 : decode cX8_paste 370 = .ok (.aload_n 0, 1) := by decide +kernel
theorem dX8_paste_371 : decode cX8_paste 371 = .ok (.getfield 56, 3) := by decide +kernel
theorem dX8_paste_374 : decode cX8_paste 374 = .ok (.iload 13, 2) := by decide +kernel
theorem dX8_paste_376 : decode cX8_paste 376 = .ok (.iaload, 1) := by decide +kernel
theorem dX8_paste_377 : decode cX8_paste 377 = .ok (.iastore, 1) := by decide +kernel
theorem dX8_paste_378 : decode cX8_paste 378 = .ok (.aload_n 0, 1) := by decide +kernel
theorem dX8_paste_379 : decode cX8_paste 379 = .ok (.getfield 59, 3) := by decide +kernel
theorem dX8_paste_382 : decode cX8_paste 382 = .ok (.iload 14, 2) := by decide +kernel
theorem dX8_paste_384 : decode cX8_paste 384 = .ok (.aload_n 0, 1) := by decide +kernel
theorem dX8_paste_385 : decode cX8_paste 385 = .ok (.getfield 46, 3) := by decide +kernel
theorem dX8_paste_388 : decode cX8_paste 388 = .ok (.iload 13, 2) := by decide +kernel
theorem dX8_paste_390 : decode cX8_paste 390 = .ok (.baload, 1) := by decide +kernel
theorem dX8_paste_391 : decode cX8_paste 391 = .ok (.ifCond .eq 7, 3) := by decide +kernel
theorem dX8_paste_394 : decode cX8_paste 394 = .ok (.iload_n 2, 1) := by decide +kernel
theorem dX8_paste_395 : decode cX8_paste 395 = .ok (.goto 4, 3) := by decide +kernel
theorem dX8_paste_398 : decode cX8_paste 398 = .ok (.iconst (-1), 1) := by decide +kernel
theorem dX8_paste_399 : decode cX8_paste 399 = .ok (.iastore, 1) := by decide +kernel
theorem dX8_paste_400 : decode cX8_paste 400 = .ok (.iload 11, 2) := by decide +kernel
theorem dX8_paste_402 : decode cX8_paste 402 = .ok (.aload_n 0, 1) := by decide +kernel
theorem dX8_paste_403 : decode cX8_paste 403 = .ok (.getfield 46, 3) := by decide +kernel
theorem dX8_paste_406 : decode cX8_paste 406 = .ok (.iload 13, 2) := by decide +kernel
theorem dX8_paste_408 : decode cX8_paste 408 = .ok (.baload, 1) := by decide +kernel
theorem dX8_paste_409 : decode cX8_paste 409 = .ok (.ifCond .eq 7, 3) := by decide +kernel
theorem dX8_paste_412 : decode cX8_paste 412 = .ok (.iconst 1, 1) := by decide +kernel
theorem dX8_paste_413 : decode cX8_paste 413 = .ok (.goto 4, 3) := by decide +kernel
theorem dX8_paste_416 : decode cX8_paste 416 = .ok (.iconst 0, 1) := by decide +kernel
theorem dX8_paste_417 : decode cX8_paste 417 = .ok (.iadd, 1) := by decide +kernel
theorem dX8_paste_418 : decode cX8_paste 418 = .ok (.istore 11, 2) := by decide +kernel
theorem dX8_paste_420 : decode cX8_paste 420 = .ok (.iinc 12 1, 3) := by decide +kernel
theorem dX8_paste_423 : decode cX8_paste 423 = .ok (.goto (-130), 3) := by decide +kernel
theorem dX8_paste_426 : decode cX8_paste 426 = .ok (.iload 11, 2) := by decide +kernel
theorem dX8_paste_428 : decode cX8_paste 428 = .ok (.ireturn, 1) := by decide +kernel
theorem dX8_island_0 : decode cX8_island 0 = .ok (.iload_n 2, 1) := by decide +kernel
theorem dX8_island_1 : decode cX8_island 1 = .ok (.sipush (-999), 3) := by decide +kernel
theorem dX8_island_4 : decode cX8_island 4 = .ok (.sipush 999, 3) := by decide +kernel
theorem dX8_island_7 : decode cX8_island 7 = .ok (.invokestatic 96, 3) := by decide +kernel
theorem dX8_island_10 : decode cX8_island 10 = .ok (.ifCond .eq 20, 3) := by decide +kernel
theorem dX8_island_13 : decode cX8_island 13 = .ok (.iload_n 3, 1) := by decide +kernel
theorem dX8_island_14 : decode cX8_island 14 = .ok (.sipush (-999), 3) := by decide +kernel
theorem dX8_island_17 : decode cX8_island 17 = .ok (.sipush 999, 3) := by decide +kernel
theorem dX8_island_20 : decode cX8_island 20 = .ok (.invokestatic 96, 3) := by decide +kernel
theorem dX8_island_23 : decode cX8_island 23 = .ok (.ifCond .eq 7, 3) := by decide +kernel
theorem dX8_island_26 : decode cX8_island 26 = .ok (.iconst 1, 1) := by decide +kernel
theorem dX8_island_27 : decode cX8_island 27 = .ok (.goto 4, 3) := by decide +kernel
theorem dX8_island_30 : decode cX8_island 30 = .ok (.iconst 0, 1) := by decide +kernel
theorem dX8_island_31 : decode cX8_island 31 = .ok (.istore 4, 2) := by decide +kernel
theorem dX8_island_33 : decode cX8_island 33 = .ok (.aload_n 0, 1) := by decide +kernel
theorem dX8_island_34 : decode cX8_island 34 = .ok (.aload_n 0, 1) := by decide +kernel
theorem dX8_island_35 : decode cX8_island 35 = .ok (.iload_n 1, 1) := by decide +kernel
theorem dX8_island_36 : decode cX8_island 36 = .ok (.invokevirtual 136, 3) := by decide +kernel
theorem dX8_island_39 : decode cX8_island 39 = .ok (.ifCond .ne 7, 3) := by decide +kernel
theorem dX8_island_42 : decode cX8_island 42 = .ok (.iconst 1, 1) := by decide +kernel
theorem dX8_island_43 : decode cX8_island 43 = .ok (.goto 26, 3) := by decide +kernel
theorem dX8_island_46 : decode cX8_island 46 = .ok (.iload 4, 2) := by decide +kernel
theorem dX8_island_48 : decode cX8_island 48 = .ok (.ifCond .ne 7, 3) := by decide +kernel
theorem dX8_island_51 : decode cX8_island 51 = .ok (.iconst 2, 1) := by decide +kernel
theorem dX8_island_52 : decode cX8_island 52 = .ok (.goto 17, 3) := by decide +kernel
theorem dX8_island_55 : decode cX8_island 55 = .ok (.aload_n 0, 1) := by decide +kernel
theorem dX8_island_56 : decode cX8_island 56 = .ok (.getfield 103, 3) := by decide +kernel
theorem dX8_island_59 : decode cX8_island 59 = .ok (.bipush 20, 2) := by decide +kernel
theorem dX8_island_61 : decode cX8_island 61 = .ok (.if_icmp .ne 7, 3) := by decide +kernel
theorem dX8_island_64 : decode cX8_island 64 = .ok (.iconst 3, 1) := by decide +kernel
theorem dX8_island_65 : decode cX8_island 65 = .ok (.goto 4, 3) := by decide +kernel
theorem dX8_island_68 : decode cX8_island 68 = .ok (.iconst 0, 1) := by decide +kernel
theorem dX8_island_69 : decode cX8_island 69 = .ok (.putfield 92, 3) := by decide +kernel
theorem dX8_island_72 : decode cX8_island 72 = .ok (.aload_n 0, 1) := by decide +kernel
theorem dX8_island_73 : decode cX8_island 73 = .ok (.getfield 92, 3) := by decide +kernel
theorem dX8_island_76 : decode cX8_island 76 = .ok (.ifCond .le 5, 3) := by decide +kernel
theorem dX8_island_79 : decode cX8_island 79 = .ok (.iconst 0, 1) := by decide +kernel
theorem dX8_island_80 : decode cX8_island 80 = .ok (.ireturn, 1) := by decide +kernel
theorem dX8_island_81 : decode cX8_island 81 = .ok (.aload_n 0, 1) := by decide +kernel
theorem dX8_island_82 : decode cX8_island 82 = .ok (.getfield 68, 3) := by decide +kernel
theorem dX8_island_85 : decode cX8_island 85 = .ok (.aload_n 0, 1) := by decide +kernel
theorem dX8_island_86 : decode cX8_island 86 = .ok (.getfield 103, 3) := by decide +kernel
theorem dX8_island_89 : decode cX8_island 89 = .ok (.iload_n 2, 1) := by decide +kernel
theorem dX8_island_90 : decode cX8_island 90 = .ok (.iastore, 1) := by decide +kernel
theorem dX8_island_91 : decode cX8_island 91 = .ok (.aload_n 0, 1) := by decide +kernel
theorem dX8_island_92 : decode cX8_island 92 = .ok (.getfield 71, 3) := by decide +kernel
theorem dX8_island_95 : decode cX8_island 95 = .ok (.aload_n 0, 1) := by decide +kernel
theorem dX8_island_96 : decode cX8_island 96 = .ok (.getfield 103, 3) := by decide +kernel
theorem dX8_island_99 : decode cX8_island 99 = .ok (.iload_n 3, 1) := by decide +kernel
theorem dX8_island_100 : decode cX8_island 100 = .ok (.iastore, 1) := by decide +kernel
theorem dX8_island_101 : decode cX8_island 101 = .ok (.aload_n 0, 1) := by decide +kernel
theorem dX8_island_102 : decode cX8_island 102 = .ok (.getfield 74, 3) := by decide +kernel
theorem dX8_island_105 : decode cX8_island 105 = .ok (.aload_n 0, 1) := by decide +kernel
theorem dX8_island_106 : decode cX8_island 106 = .ok (.getfield 103, 3) := by decide +kernel
theorem dX8_island_109 : decode cX8_island 109 = .ok (.iload_n 1, 1) := by decide +kernel
theorem dX8_island_110 : decode cX8_island 110 = .ok (.iastore, 1) := by decide +kernel
theorem dX8_island_111 : decode cX8_island 111 = .ok (.aload_n 0, 1) := by decide +kernel
theorem dX8_island_112 : decode cX8_island 112 = .ok (.getfield 77, 3) := by decide +kernel
theorem dX8_island_115 : decode cX8_island 115 = .ok (.bipush 20, 2) := by decide +kernel
theorem dX8_island_117 : decode cX8_island 117 = .ok (.iload_n 1, 1) := by decide +kernel
theorem dX8_island_118 : decode cX8_island 118 = .ok (.imul, 1) := by decide +kernel
theorem dX8_island_119 : decode cX8_island 119 = .ok (.aload_n 0, 1) := by decide +kernel
theorem dX8_island_120 : decode cX8_island 120 = .ok (.getfield 103, 3) := by decide +kernel
theorem dX8_island_123 : decode cX8_island 123 = .ok (.iadd, 1) := by decide +kernel
theorem dX8_island_124 : decode cX8_island 124 = .ok (.iconst 1, 1) := by decide +kernel
theorem dX8_island_125 : decode cX8_island 125 = .ok (.bastore, 1) := by decide +kernel
theorem dX8_island_126 : decode cX8_island 126 = .ok (.aload_n 0, 1) := by decide +kernel
theorem dX8_island_127 : decode cX8_island 127 = .ok (.dup, 1) := by decide +kernel
theorem dX8_island_128 : decode cX8_island 128 = .ok (.getfield 103, 3) := by decide +kernel
theorem dX8_island_131 : decode cX8_island 131 = .ok (.iconst 1, 1) := by decide +kernel
theorem dX8_island_132 : decode cX8_island 132 = .ok (.iadd, 1) := by decide +kernel
theorem dX8_island_133 : decode cX8_island 133 = .ok (.putfield 103, 3) := by decide +kernel
theorem dX8_island_136 : decode cX8_island 136 = .ok (.aload_n 0, 1) := by decide +kernel
theorem dX8_island_137 : decode cX8_island 137 = .ok (.getfield 103, 3) := by decide +kernel
theorem dX8_island_140 : decode cX8_island 140 = .ok (.iconst 1, 1) := by decide +kernel
theorem dX8_island_141 : decode cX8_island 141 = .ok (.isub, 1) := by decide +kernel
theorem dX8_island_142 : decode cX8_island 142 = .ok (.ireturn, 1) := by decide +kernel
theorem dX8_exchange_0 : decode cX8_exchange 0 = .ok (.aload_n 0, 1) := by decide +kernel
theorem dX8_exchange_1 : decode cX8_exchange 1 = .ok (.aload_n 0, 1) := by decide +kernel
theorem dX8_exchange_2 : decode cX8_exchange 2 = .ok (.iload_n 1, 1) := by decide +kernel
theorem dX8_exchange_3 : decode cX8_exchange 3 = .ok (.invokevirtual 136, 3) := by decide +kernel
theorem dX8_exchange_6 : decode cX8_exchange 6 = .ok (.ifCond .eq 21, 3) := by decide +kernel
theorem dX8_exchange_9 : decode cX8_exchange 9 = .ok (.iload_n 2, 1) := by decide +kernel
theorem dX8_exchange_10 : decode cX8_exchange 10 = .ok (.invokestatic 113, 3) := by decide +kernel
theorem dX8_exchange_13 : decode cX8_exchange 13 = .ok (.ifCond .eq 14, 3) := by decide +kernel
theorem dX8_exchange_16 : decode cX8_exchange 16 = .ok (.iload_n 3, 1) := by decide +kernel
theorem dX8_exchange_17 : decode cX8_exchange 17 = .ok (.invokestatic 113, 3) := by decide +kernel
theorem dX8_exchange_20 : decode cX8_exchange 20 = .ok (.ifCond .eq 7, 3) := by decide +kernel
theorem dX8_exchange_23 : decode cX8_exchange 23 = .ok (.iconst 0, 1) := by decide +kernel
theorem dX8_exchange_24 : decode cX8_exchange 24 = .ok (.goto 4, 3) := by decide +kernel
theorem dX8_exchange_27 : decode cX8_exchange 27 = .ok (.iconst 1, 1) := by decide +kernel
theorem dX8_exchange_28 : decode cX8_exchange 28 = .ok (.putfield 92, 3) := by decide +kernel
theorem dX8_exchange_31 : decode cX8_exchange 31 = .ok (.aload_n 0, 1) := by decide +kernel
theorem dX8_exchange_32 : decode cX8_exchange 32 = .ok (.getfield 92, 3) := by decide +kernel
theorem dX8_exchange_35 : decode cX8_exchange 35 = .ok (.ifCond .ne 47, 3) := by decide +kernel
theorem dX8_exchange_38 : decode cX8_exchange 38 = .ok (.aload_n 0, 1) := by decide +kernel
theorem dX8_exchange_39 : decode cX8_exchange 39 = .ok (.getfield 56, 3) := by decide +kernel
theorem dX8_exchange_42 : decode cX8_exchange 42 = .ok (.iload_n 1, 1) := by decide +kernel
theorem dX8_exchange_43 : decode cX8_exchange 43 = .ok (.iload_n 2, 1) := by decide +kernel
theorem dX8_exchange_44 : decode cX8_exchange 44 = .ok (.invokestatic 122, 3) := by decide +kernel
theorem dX8_exchange_47 : decode cX8_exchange 47 = .ok (.iaload, 1) := by decide +kernel
theorem dX8_exchange_48 : decode cX8_exchange 48 = .ok (.istore 4, 2) := by decide +kernel
theorem dX8_exchange_50 : decode cX8_exchange 50 = .ok (.aload_n 0, 1) := by decide +kernel
theorem dX8_exchange_51 : decode cX8_exchange 51 = .ok (.getfield 56, 3) := by decide +kernel
theorem dX8_exchange_54 : decode cX8_exchange 54 = .ok (.iload_n 1, 1) := by decide +kernel
theorem dX8_exchange_55 : decode cX8_exchange 55 = .ok (.iload_n 2, 1) := by decide +kernel
theorem dX8_exchange_56 : decode cX8_exchange 56 = .ok (.invokestatic 122, 3) := by decide +kernel
theorem dX8_exchange_59 : decode cX8_exchange 59 = .ok (.aload_n 0, 1) := by decide +kernel
theorem dX8_exchange_60 : decode cX8_exchange 60 = .ok (.getfield 56, 3) := by decide +kernel
theorem dX8_exchange_63 : decode cX8_exchange 63 = .ok (.iload_n 1, 1) := by decide +kernel
theorem dX8_exchange_64 : decode cX8_exchange 64 = .ok (.iload_n 3, 1) := by decide +kernel
theorem dX8_exchange_65 : decode cX8_exchange 65 = .ok (.invokestatic 122, 3) := by decide +kernel
theorem dX8_exchange_68 : decode cX8_exchange 68 = .ok (.iaload, 1) := by decide +kernel
theorem dX8_exchange_69 : decode cX8_exchange 69 = .ok (.iastore, 1) := by decide +kernel
theorem dX8_exchange_70 : decode cX8_exchange 70 = .ok (.aload_n 0, 1) := by decide +kernel
theorem dX8_exchange_71 : decode cX8_exchange 71 = .ok (.getfield 56, 3) := by decide +kernel
theorem dX8_exchange_74 : decode cX8_exchange 74 = .ok (.iload_n 1, 1) := by decide +kernel
theorem dX8_exchange_75 : decode cX8_exchange 75 = .ok (.iload_n 3, 1) := by decide +kernel
theorem dX8_exchange_76 : decode cX8_exchange 76 = .ok (.invokestatic 122, 3) := by decide +kernel
theorem dX8_exchange_79 : decode cX8_exchange 79 = .ok (.iload 4, 2) := by decide +kernel
theorem dX8_exchange_81 : decode cX8_exchange 81 = .ok (.iastore, 1) := by decide +kernel
theorem dX8_exchange_82 : decode cX8_exchange 82 = .ok (.return_, 1) := by decide +kernel
theorem dX8_canShrink_0 : decode cX8_canShrink 0 = .ok (.iconst 1, 1) := by decide +kernel
theorem dX8_canShrink_1 : decode cX8_canShrink 1 = .ok (.istore 4, 2) := by decide +kernel
theorem dX8_canShrink_3 : decode cX8_canShrink 3 = .ok (.bipush 8, 2) := by decide +kernel
theorem dX8_canShrink_5 : decode cX8_canShrink 5 = .ok (.iload_n 2, 1) := by decide +kernel
theorem dX8_canShrink_6 : decode cX8_canShrink 6 = .ok (.imul, 1) := by decide +kernel
theorem dX8_canShrink_7 : decode cX8_canShrink 7 = .ok (.istore 5, 2) := by decide +kernel
theorem dX8_canShrink_9 : decode cX8_canShrink 9 = .ok (.iload 5, 2) := by decide +kernel
theorem dX8_canShrink_11 : decode cX8_canShrink 11 = .ok (.bipush 8, 2) := by decide +kernel
theorem dX8_canShrink_13 : decode cX8_canShrink 13 = .ok (.iload_n 2, 1) := by decide +kernel
theorem dX8_canShrink_14 : decode cX8_canShrink 14 = .ok (.imul, 1) := by decide +kernel
theorem dX8_canShrink_15 : decode cX8_canShrink 15 = .ok (.bipush 8, 2) := by decide +kernel
theorem dX8_canShrink_17 : decode cX8_canShrink 17 = .ok (.iadd, 1) := by decide +kernel
theorem dX8_canShrink_18 : decode cX8_canShrink 18 = .ok (.if_icmp .ge 87, 3) := by decide +kernel
theorem dX8_canShrink_21 : decode cX8_canShrink 21 = .ok (.iload_n 1, 1) := by decide +kernel
theorem dX8_canShrink_22 : decode cX8_canShrink 22 = .ok (.iload 5, 2) := by decide +kernel
theorem dX8_canShrink_24 : decode cX8_canShrink 24 = .ok (.invokestatic 122, 3) := by decide +kernel
theorem dX8_canShrink_27 : decode cX8_canShrink 27 = .ok (.istore 6, 2) := by decide +kernel
theorem dX8_canShrink_29 : decode cX8_canShrink 29 = .ok (.iload 4, 2) := by decide +kernel
theorem dX8_canShrink_31 : decode cX8_canShrink 31 = .ok (.ifCond .eq 65, 3) := by decide +kernel
theorem dX8_canShrink_34 : decode cX8_canShrink 34 = .ok (.aload_n 0, 1) := by decide +kernel
theorem dX8_canShrink_35 : decode cX8_canShrink 35 = .ok (.getfield 46, 3) := by decide +kernel
theorem dX8_canShrink_38 : decode cX8_canShrink 38 = .ok (.iload 6, 2) := by decide +kernel
theorem dX8_canShrink_40 : decode cX8_canShrink 40 = .ok (.baload, 1) := by decide +kernel
theorem dX8_canShrink_41 : decode cX8_canShrink 41 = .ok (.ifCond .eq 51, 3) := by decide +kernel
theorem dX8_canShrink_44 : decode cX8_canShrink 44 = .ok (.aload_n 0, 1) := by decide +kernel
theorem dX8_canShrink_45 : decode cX8_canShrink 45 = .ok (.getfield 50, 3) := by decide +kernel
theorem dX8_canShrink_48 : decode cX8_canShrink 48 = .ok (.iload 6, 2) := by decide +kernel
theorem dX8_canShrink_50 : decode cX8_canShrink 50 = .ok (.iaload, 1) := by decide +kernel
theorem dX8_canShrink_51 : decode cX8_canShrink 51 = .ok (.iload_n 3, 1) := by decide +kernel
theorem dX8_canShrink_52 : decode cX8_canShrink 52 = .ok (.imul, 1) := by decide +kernel
theorem dX8_canShrink_53 : decode cX8_canShrink 53 = .ok (.bipush 100, 2) := by decide +kernel
theorem dX8_canShrink_55 : decode cX8_canShrink 55 = .ok (.idiv, 1) := by decide +kernel
theorem dX8_canShrink_56 : decode cX8_canShrink 56 = .ok (.sipush (-9999), 3) := by decide +kernel
theorem dX8_canShrink_59 : decode cX8_canShrink 59 = .ok (.sipush 9999, 3) := by decide +kernel
theorem dX8_canShrink_62 : decode cX8_canShrink 62 = .ok (.invokestatic 96, 3) := by decide +kernel
theorem dX8_canShrink_65 : decode cX8_canShrink 65 = .ok (.ifCond .eq 31, 3) := by decide +kernel
theorem dX8_canShrink_68 : decode cX8_canShrink 68 = .ok (.aload_n 0, 1) := by decide +kernel
theorem dX8_canShrink_69 : decode cX8_canShrink 69 = .ok (.getfield 53, 3) := by decide +kernel
theorem dX8_canShrink_72 : decode cX8_canShrink 72 = .ok (.iload 6, 2) := by decide +kernel
theorem dX8_canShrink_74 : decode cX8_canShrink 74 = .ok (.iaload, 1) := by decide +kernel
theorem dX8_canShrink_75 : decode cX8_canShrink 75 = .ok (.iload_n 3, 1) := by decide +kernel
theorem dX8_canShrink_76 : decode cX8_canShrink 76 = .ok (.imul, 1) := by decide +kernel
theorem dX8_canShrink_77 : decode cX8_canShrink 77 = .ok (.bipush 100, 2) := by decide +kernel
theorem dX8_canShrink_79 : decode cX8_canShrink 79 = .ok (.idiv, 1) := by decide +kernel
theorem dX8_canShrink_80 : decode cX8_canShrink 80 = .ok (.sipush (-9999), 3) := by decide +kernel
theorem dX8_canShrink_83 : decode cX8_canShrink 83 = .ok (.sipush 9999, 3) := by decide +kernel
theorem dX8_canShrink_86 : decode cX8_canShrink 86 = .ok (.invokestatic 96, 3) := by decide +kernel
theorem dX8_canShrink_89 : decode cX8_canShrink 89 = .ok (.ifCond .eq 7, 3) := by decide +kernel
theorem dX8_canShrink_92 : decode cX8_canShrink 92 = .ok (.iconst 1, 1) := by decide +kernel
theorem dX8_canShrink_93 : decode cX8_canShrink 93 = .ok (.goto 4, 3) := by decide +kernel
theorem dX8_canShrink_96 : decode cX8_canShrink 96 = .ok (.iconst 0, 1) := by decide +kernel
theorem dX8_canShrink_97 : decode cX8_canShrink 97 = .ok (.istore 4, 2) := by decide +kernel
theorem dX8_canShrink_99 : decode cX8_canShrink 99 = .ok (.iinc 5 1, 3) := by decide +kernel
theorem dX8_canShrink_102 : decode cX8_canShrink 102 = .ok (.goto (-93), 3) := by decide +kernel
theorem dX8_canShrink_105 : decode cX8_canShrink 105 = .ok (.iload 4, 2) := by decide +kernel
theorem dX8_canShrink_107 : decode cX8_canShrink 107 = .ok (.ireturn, 1) := by decide +kernel
theorem dX8_shrink_0 : decode cX8_shrink 0 = .ok (.aload_n 0, 1) := by decide +kernel
theorem dX8_shrink_1 : decode cX8_shrink 1 = .ok (.iload_n 1, 1) := by decide +kernel
theorem dX8_shrink_2 : decode cX8_shrink 2 = .ok (.invokevirtual 136, 3) := by decide +kernel
theorem dX8_shrink_5 : decode cX8_shrink 5 = .ok (.ifCond .eq 14, 3) := by decide +kernel
theorem dX8_shrink_8 : decode cX8_shrink 8 = .ok (.iload_n 2, 1) := by decide +kernel
theorem dX8_shrink_9 : decode cX8_shrink 9 = .ok (.invokestatic 152, 3) := by decide +kernel
theorem dX8_shrink_12 : decode cX8_shrink 12 = .ok (.ifCond .eq 7, 3) := by decide +kernel
theorem dX8_shrink_15 : decode cX8_shrink 15 = .ok (.iconst 1, 1) := by decide +kernel
theorem dX8_shrink_16 : decode cX8_shrink 16 = .ok (.goto 4, 3) := by decide +kernel
theorem dX8_shrink_19 : decode cX8_shrink 19 = .ok (.iconst 0, 1) := by decide +kernel
theorem dX8_shrink_20 : decode cX8_shrink 20 = .ok (.istore 5, 2) := by decide +kernel
theorem dX8_shrink_22 : decode cX8_shrink 22 = .ok (.iload_n 3, 1) := by decide +kernel
theorem dX8_shrink_23 : decode cX8_shrink 23 = .ok (.bipush 50, 2) := by decide +kernel
theorem dX8_shrink_25 : decode cX8_shrink 25 = .ok (.sipush 200, 3) := by decide +kernel
theorem dX8_shrink_28 : decode cX8_shrink 28 = .ok (.invokestatic 96, 3) := by decide +kernel
theorem dX8_shrink_31 : decode cX8_shrink 31 = .ok (.istore 6, 2) := by decide +kernel
theorem dX8_shrink_33 : decode cX8_shrink 33 = .ok (.aload_n 0, 1) := by decide +kernel
theorem dX8_shrink_34 : decode cX8_shrink 34 = .ok (.iload 5, 2) := by decide +kernel
theorem dX8_shrink_36 : decode cX8_shrink 36 = .ok (.ifCond .ne 7, 3) := by decide +kernel
theorem dX8_shrink_39 : decode cX8_shrink 39 = .ok (.iconst 1, 1) := by decide +kernel
theorem dX8_shrink_40 : decode cX8_shrink 40 = .ok (.goto 32, 3) := by decide +kernel
theorem dX8_shrink_43 : decode cX8_shrink 43 = .ok (.iload 6, 2) := by decide +kernel
theorem dX8_shrink_45 : decode cX8_shrink 45 = .ok (.ifCond .ne 7, 3) := by decide +kernel
theorem dX8_shrink_48 : decode cX8_shrink 48 = .ok (.iconst 2, 1) := by decide +kernel
theorem dX8_shrink_49 : decode cX8_shrink 49 = .ok (.goto 23, 3) := by decide +kernel
theorem dX8_shrink_52 : decode cX8_shrink 52 = .ok (.iload 4, 2) := by decide +kernel
theorem dX8_shrink_54 : decode cX8_shrink 54 = .ok (.ifCond .ne 17, 3) := by decide +kernel
theorem dX8_shrink_57 : decode cX8_shrink 57 = .ok (.aload_n 0, 1) := by decide +kernel
theorem dX8_shrink_58 : decode cX8_shrink 58 = .ok (.iload_n 1, 1) := by decide +kernel
theorem dX8_shrink_59 : decode cX8_shrink 59 = .ok (.iload_n 2, 1) := by decide +kernel
theorem dX8_shrink_60 : decode cX8_shrink 60 = .ok (.iload_n 3, 1) := by decide +kernel
theorem dX8_shrink_61 : decode cX8_shrink 61 = .ok (.invokevirtual 155, 3) := by decide +kernel
theorem dX8_shrink_64 : decode cX8_shrink 64 = .ok (.ifCond .ne 7, 3) := by decide +kernel
theorem dX8_shrink_67 : decode cX8_shrink 67 = .ok (.iconst 3, 1) := by decide +kernel
theorem dX8_shrink_68 : decode cX8_shrink 68 = .ok (.goto 4, 3) := by decide +kernel
theorem dX8_shrink_71 : decode cX8_shrink 71 = .ok (.iconst 0, 1) := by decide +kernel
theorem dX8_shrink_72 : decode cX8_shrink 72 = .ok (.putfield 92, 3) := by decide +kernel
theorem dX8_shrink_75 : decode cX8_shrink 75 = .ok (.aload_n 0, 1) := by decide +kernel
theorem dX8_shrink_76 : decode cX8_shrink 76 = .ok (.getfield 92, 3) := by decide +kernel
theorem dX8_shrink_79 : decode cX8_shrink 79 = .ok (.ifCond .le 5, 3) := by decide +kernel
theorem dX8_shrink_82 : decode cX8_shrink 82 = .ok (.iconst 0, 1) := by decide +kernel
theorem dX8_shrink_83 : decode cX8_shrink 83 = .ok (.ireturn, 1) := by decide +kernel
theorem dX8_shrink_84 : decode cX8_shrink 84 = .ok (.bipush 8, 2) := by decide +kernel
theorem dX8_shrink_86 : decode cX8_shrink 86 = .ok (.iload_n 2, 1) := by decide +kernel
theorem dX8_shrink_87 : decode cX8_shrink 87 = .ok (.imul, 1) := by decide +kernel
theorem dX8_shrink_88 : decode cX8_shrink 88 = .ok (.istore 7, 2) := by decide +kernel
theorem dX8_shrink_90 : decode cX8_shrink 90 = .ok (.iload 7, 2) := by decide +kernel
theorem dX8_shrink_92 : decode cX8_shrink 92 = .ok (.bipush 8, 2) := by decide +kernel
theorem dX8_shrink_94 : decode cX8_shrink 94 = .ok (.iload_n 2, 1) := by decide +kernel
theorem dX8_shrink_95 : decode cX8_shrink 95 = .ok (.imul, 1) := by decide +kernel
theorem dX8_shrink_96 : decode cX8_shrink 96 = .ok (.bipush 8, 2) := by decide +kernel
theorem dX8_shrink_98 : decode cX8_shrink 98 = .ok (.iadd, 1) := by decide +kernel
theorem dX8_shrink_99 : decode cX8_shrink 99 = .ok (.if_icmp .ge 68, 3) := by decide +kernel
theorem dX8_shrink_102 : decode cX8_shrink 102 = .ok (.iload 4, 2) := by decide +kernel
theorem dX8_shrink_104 : decode cX8_shrink 104 = .ok (.ifCond .ne 63, 3) := by decide +kernel
theorem dX8_shrink_107 : decode cX8_shrink 107 = .ok (.aload_n 0, 1) := by decide +kernel
theorem dX8_shrink_108 : decode cX8_shrink 108 = .ok (.getfield 50, 3) := by decide +kernel
theorem dX8_shrink_111 : decode cX8_shrink 111 = .ok (.iload_n 1, 1) := by decide +kernel
theorem dX8_shrink_112 : decode cX8_shrink 112 = .ok (.iload 7, 2) := by decide +kernel
theorem dX8_shrink_114 : decode cX8_shrink 114 = .ok (.invokestatic 122, 3) := by decide +kernel
theorem dX8_shrink_117 : decode cX8_shrink 117 = .ok (.aload_n 0, 1) := by decide +kernel
theorem dX8_shrink_118 : decode cX8_shrink 118 = .ok (.getfield 50, 3) := by decide +kernel
theorem dX8_shrink_121 : decode cX8_shrink 121 = .ok (.iload_n 1, 1) := by decide +kernel
theorem dX8_shrink_122 : decode cX8_shrink 122 = .ok (.iload 7, 2) := by decide +kernel
theorem dX8_shrink_124 : decode cX8_shrink 124 = .ok (.invokestatic 122, 3) := by decide +kernel
theorem dX8_shrink_127 : decode cX8_shrink 127 = .ok (.iaload, 1) := by decide +kernel
theorem dX8_shrink_128 : decode cX8_shrink 128 = .ok (.iload_n 3, 1) := by decide +kernel
theorem dX8_shrink_129 : decode cX8_shrink 129 = .ok (.imul, 1) := by decide +kernel
theorem dX8_shrink_130 : decode cX8_shrink 130 = .ok (.bipush 100, 2) := by decide +kernel
theorem dX8_shrink_132 : decode cX8_shrink 132 = .ok (.idiv, 1) := by decide +kernel
theorem dX8_shrink_133 : decode cX8_shrink 133 = .ok (.iastore, 1) := by decide +kernel
theorem dX8_shrink_134 : decode cX8_shrink 134 = .ok (.aload_n 0, 1) := by decide +kernel
theorem dX8_shrink_135 : decode cX8_shrink 135 = .ok (.getfield 53, 3) := by decide +kernel
theorem dX8_shrink_138 : decode cX8_shrink 138 = .ok (.iload_n 1, 1) := by decide +kernel
theorem dX8_shrink_139 : decode cX8_shrink 139 = .ok (.iload 7, 2) := by decide +kernel
theorem dX8_shrink_141 : decode cX8_shrink 141 = .ok (.invokestatic 122, 3) := by decide +kernel
theorem dX8_shrink_144 : decode cX8_shrink 144 = .ok (.aload_n 0, 1) := by decide +kernel
theorem dX8_shrink_145 : decode cX8_shrink 145 = .ok (.getfield 53, 3) := by decide +kernel
theorem dX8_shrink_148 : decode cX8_shrink 148 = .ok (.iload_n 1, 1) := by decide +kernel
theorem dX8_shrink_149 : decode cX8_shrink 149 = .ok (.iload 7, 2) := by decide +kernel
theorem dX8_shrink_151 : decode cX8_shrink 151 = .ok (.invokestatic 122, 3) := by decide +kernel
theorem dX8_shrink_154 : decode cX8_shrink 154 = .ok (.iaload, 1) := by decide +kernel
theorem dX8_shrink_155 : decode cX8_shrink 155 = .ok (.iload_n 3, 1) := by decide +kernel
theorem dX8_shrink_156 : decode cX8_shrink 156 = .ok (.imul, 1) := by decide +kernel
theorem dX8_shrink_157 : decode cX8_shrink 157 = .ok (.bipush 100, 2) := by decide +kernel
theorem dX8_shrink_159 : decode cX8_shrink 159 = .ok (.idiv, 1) := by decide +kernel
theorem dX8_shrink_160 : decode cX8_shrink 160 = .ok (.iastore, 1) := by decide +kernel
theorem dX8_shrink_161 : decode cX8_shrink 161 = .ok (.iinc 7 1, 3) := by decide +kernel
theorem dX8_shrink_164 : decode cX8_shrink 164 = .ok (.goto (-74), 3) := by decide +kernel
theorem dX8_shrink_167 : decode cX8_shrink 167 = .ok (.iconst 3, 1) := by decide +kernel
theorem dX8_shrink_168 : decode cX8_shrink 168 = .ok (.iload_n 1, 1) := by decide +kernel
theorem dX8_shrink_169 : decode cX8_shrink 169 = .ok (.imul, 1) := by decide +kernel
theorem dX8_shrink_170 : decode cX8_shrink 170 = .ok (.iload_n 2, 1) := by decide +kernel
theorem dX8_shrink_171 : decode cX8_shrink 171 = .ok (.iadd, 1) := by decide +kernel
theorem dX8_shrink_172 : decode cX8_shrink 172 = .ok (.istore 7, 2) := by decide +kernel
theorem dX8_shrink_174 : decode cX8_shrink 174 = .ok (.aload_n 0, 1) := by decide +kernel
theorem dX8_shrink_175 : decode cX8_shrink 175 = .ok (.getfield 43, 3) := by decide +kernel
theorem dX8_shrink_178 : decode cX8_shrink 178 = .ok (.iload 7, 2) := by decide +kernel
theorem dX8_shrink_180 : decode cX8_shrink 180 = .ok (.iload 4, 2) := by decide +kernel
theorem dX8_shrink_182 : decode cX8_shrink 182 = .ok (.ifCond .eq 7, 3) := by decide +kernel
theorem dX8_shrink_185 : decode cX8_shrink 185 = .ok (.iload_n 3, 1) := by decide +kernel
theorem dX8_shrink_186 : decode cX8_shrink 186 = .ok (.goto 10, 3) := by decide +kernel
theorem dX8_shrink_189 : decode cX8_shrink 189 = .ok (.aload_n 0, 1) := by decide +kernel
theorem dX8_shrink_190 : decode cX8_shrink 190 = .ok (.getfield 43, 3) := by decide +kernel
theorem dX8_shrink_193 : decode cX8_shrink 193 = .ok (.iload 7, 2) := by decide +kernel
theorem dX8_shrink_195 : decode cX8_shrink 195 = .ok (.iaload, 1) := by decide +kernel
theorem dX8_shrink_196 : decode cX8_shrink 196 = .ok (.iastore, 1) := by decide +kernel
theorem dX8_shrink_197 : decode cX8_shrink 197 = .ok (.aload_n 0, 1) := by decide +kernel
theorem dX8_shrink_198 : decode cX8_shrink 198 = .ok (.getfield 43, 3) := by decide +kernel
theorem dX8_shrink_201 : decode cX8_shrink 201 = .ok (.iload 7, 2) := by decide +kernel
theorem dX8_shrink_203 : decode cX8_shrink 203 = .ok (.iaload, 1) := by decide +kernel
theorem dX8_shrink_204 : decode cX8_shrink 204 = .ok (.ireturn, 1) := by decide +kernel
theorem dX8_lose_0 : decode cX8_lose 0 = .ok (.aload_n 0, 1) := by decide +kernel
theorem dX8_lose_1 : decode cX8_lose 1 = .ok (.iload_n 1, 1) := by decide +kernel
theorem dX8_lose_2 : decode cX8_lose 2 = .ok (.invokevirtual 136, 3) := by decide +kernel
theorem dX8_lose_5 : decode cX8_lose 5 = .ok (.ifCond .eq 21, 3) := by decide +kernel
theorem dX8_lose_8 : decode cX8_lose 8 = .ok (.iload_n 2, 1) := by decide +kernel
theorem dX8_lose_9 : decode cX8_lose 9 = .ok (.invokestatic 113, 3) := by decide +kernel
theorem dX8_lose_12 : decode cX8_lose 12 = .ok (.ifCond .eq 14, 3) := by decide +kernel
theorem dX8_lose_15 : decode cX8_lose 15 = .ok (.iload_n 3, 1) := by decide +kernel
theorem dX8_lose_16 : decode cX8_lose 16 = .ok (.invokestatic 113, 3) := by decide +kernel
theorem dX8_lose_19 : decode cX8_lose 19 = .ok (.ifCond .eq 7, 3) := by decide +kernel
theorem dX8_lose_22 : decode cX8_lose 22 = .ok (.iconst 1, 1) := by decide +kernel
theorem dX8_lose_23 : decode cX8_lose 23 = .ok (.goto 4, 3) := by decide +kernel
theorem dX8_lose_26 : decode cX8_lose 26 = .ok (.iconst 0, 1) := by decide +kernel
theorem dX8_lose_27 : decode cX8_lose 27 = .ok (.istore 4, 2) := by decide +kernel
theorem dX8_lose_29 : decode cX8_lose 29 = .ok (.aload_n 0, 1) := by decide +kernel
theorem dX8_lose_30 : decode cX8_lose 30 = .ok (.iload 4, 2) := by decide +kernel
theorem dX8_lose_32 : decode cX8_lose 32 = .ok (.ifCond .ne 7, 3) := by decide +kernel
theorem dX8_lose_35 : decode cX8_lose 35 = .ok (.iconst 1, 1) := by decide +kernel
theorem dX8_lose_36 : decode cX8_lose 36 = .ok (.goto 13, 3) := by decide +kernel
theorem dX8_lose_39 : decode cX8_lose 39 = .ok (.iload_n 3, 1) := by decide +kernel
theorem dX8_lose_40 : decode cX8_lose 40 = .ok (.iload_n 2, 1) := by decide +kernel
theorem dX8_lose_41 : decode cX8_lose 41 = .ok (.if_icmp .ge 7, 3) := by decide +kernel
theorem dX8_lose_44 : decode cX8_lose 44 = .ok (.iconst 2, 1) := by decide +kernel
theorem dX8_lose_45 : decode cX8_lose 45 = .ok (.goto 4, 3) := by decide +kernel
theorem dX8_lose_48 : decode cX8_lose 48 = .ok (.iconst 0, 1) := by decide +kernel
theorem dX8_lose_49 : decode cX8_lose 49 = .ok (.putfield 92, 3) := by decide +kernel
theorem dX8_lose_52 : decode cX8_lose 52 = .ok (.iconst 0, 1) := by decide +kernel
theorem dX8_lose_53 : decode cX8_lose 53 = .ok (.istore 5, 2) := by decide +kernel
theorem dX8_lose_55 : decode cX8_lose 55 = .ok (.iload_n 2, 1) := by decide +kernel
theorem dX8_lose_56 : decode cX8_lose 56 = .ok (.istore 6, 2) := by decide +kernel
theorem dX8_lose_58 : decode cX8_lose 58 = .ok (.iload 6, 2) := by decide +kernel
theorem dX8_lose_60 : decode cX8_lose 60 = .ok (.iload_n 3, 1) := by decide +kernel
theorem dX8_lose_61 : decode cX8_lose 61 = .ok (.if_icmp .gt 88, 3) := by decide +kernel
theorem dX8_lose_64 : decode cX8_lose 64 = .ok (.aload_n 0, 1) := by decide +kernel
theorem dX8_lose_65 : decode cX8_lose 65 = .ok (.getfield 92, 3) := by decide +kernel
theorem dX8_lose_68 : decode cX8_lose 68 = .ok (.ifCond .ne 81, 3) := by decide +kernel
theorem dX8_lose_71 : decode cX8_lose 71 = .ok (.iload 5, 2) := by decide +kernel
theorem dX8_lose_73 : decode cX8_lose 73 = .ok (.aload_n 0, 1) := by decide +kernel
theorem dX8_lose_74 : decode cX8_lose 74 = .ok (.getfield 46, 3) := by decide +kernel
theorem dX8_lose_77 : decode cX8_lose 77 = .ok (.iload_n 1, 1) := by decide +kernel
theorem dX8_lose_78 : decode cX8_lose 78 = .ok (.iload 6, 2) := by decide +kernel
theorem dX8_lose_80 : decode cX8_lose 80 = .ok (.invokestatic 122, 3) := by decide +kernel
theorem dX8_lose_83 : decode cX8_lose 83 = .ok (.baload, 1) := by decide +kernel
theorem dX8_lose_84 : decode cX8_lose 84 = .ok (.ifCond .eq 7, 3) := by decide +kernel
theorem dX8_lose_87 : decode cX8_lose 87 = .ok (.iconst 1, 1) := by decide +kernel
theorem dX8_lose_88 : decode cX8_lose 88 = .ok (.goto 4, 3) := by decide +kernel
theorem dX8_lose_91 : decode cX8_lose 91 = .ok (.iconst 0, 1) := by decide +kernel
theorem dX8_lose_92 : decode cX8_lose 92 = .ok (.iadd, 1) := by decide +kernel
theorem dX8_lose_93 : decode cX8_lose 93 = .ok (.istore 5, 2) := by decide +kernel
theorem dX8_lose_95 : decode cX8_lose 95 = .ok (.aload_n 0, 1) := by decide +kernel
theorem dX8_lose_96 : decode cX8_lose 96 = .ok (.getfield 46, 3) := by decide +kernel
theorem dX8_lose_99 : decode cX8_lose 99 = .ok (.iload_n 1, 1) := by decide +kernel
theorem dX8_lose_100 : decode cX8_lose 100 = .ok (.iload 6, 2) := by decide +kernel
theorem dX8_lose_102 : decode cX8_lose 102 = .ok (.invokestatic 122, 3) := by decide +kernel
theorem dX8_lose_105 : decode cX8_lose 105 = .ok (.iconst 0, 1) := by decide +kernel
theorem dX8_lose_106 : decode cX8_lose 106 = .ok (.bastore, 1) := by decide +kernel
theorem dX8_lose_107 : decode cX8_lose 107 = .ok (.aload_n 0, 1) := by decide +kernel
theorem dX8_lose_108 : decode cX8_lose 108 = .ok (.getfield 50, 3) := by decide +kernel
theorem dX8_lose_111 : decode cX8_lose 111 = .ok (.iload_n 1, 1) := by decide +kernel
theorem dX8_lose_112 : decode cX8_lose 112 = .ok (.iload 6, 2) := by decide +kernel
theorem dX8_lose_114 : decode cX8_lose 114 = .ok (.invokestatic 122, 3) := by decide +kernel
theorem dX8_lose_117 : decode cX8_lose 117 = .ok (.iconst 0, 1) := by decide +kernel
theorem dX8_lose_118 : decode cX8_lose 118 = .ok (.iastore, 1) := by decide +kernel
theorem dX8_lose_119 : decode cX8_lose 119 = .ok (.aload_n 0, 1) := by decide +kernel
theorem dX8_lose_120 : decode cX8_lose 120 = .ok (.getfield 53, 3) := by decide +kernel
theorem dX8_lose_123 : decode cX8_lose 123 = .ok (.iload_n 1, 1) := by decide +kernel
theorem dX8_lose_124 : decode cX8_lose 124 = .ok (.iload 6, 2) := by decide +kernel
theorem dX8_lose_126 : decode cX8_lose 126 = .ok (.invokestatic 122, 3) := by decide +kernel
theorem dX8_lose_129 : decode cX8_lose 129 = .ok (.iconst 0, 1) := by decide +kernel
theorem dX8_lose_130 : decode cX8_lose 130 = .ok (.iastore, 1) := by decide +kernel
theorem dX8_lose_131 : decode cX8_lose 131 = .ok (.aload_n 0, 1) := by decide +kernel
theorem dX8_lose_132 : decode cX8_lose 132 = .ok (.getfield 59, 3) := by decide +kernel
theorem dX8_lose_135 : decode cX8_lose 135 = .ok (.iload_n 1, 1) := by decide +kernel
theorem dX8_lose_136 : decode cX8_lose 136 = .ok (.iload 6, 2) := by decide +kernel
theorem dX8_lose_138 : decode cX8_lose 138 = .ok (.invokestatic 122, 3) := by decide +kernel
theorem dX8_lose_141 : decode cX8_lose 141 = .ok (.iconst (-1), 1) := by decide +kernel
theorem dX8_lose_142 : decode cX8_lose 142 = .ok (.iastore, 1) := by decide +kernel
theorem dX8_lose_143 : decode cX8_lose 143 = .ok (.iinc 6 1, 3) := by decide +kernel
theorem dX8_lose_146 : decode cX8_lose 146 = .ok (.goto (-88), 3) := by decide +kernel
theorem dX8_lose_149 : decode cX8_lose 149 = .ok (.iload 5, 2) := by decide +kernel
theorem dX8_lose_151 : decode cX8_lose 151 = .ok (.ireturn, 1) := by decide +kernel
theorem dX8_paint_0 : decode cX8_paint 0 = .ok (.aload_n 0, 1) := by decide +kernel
theorem dX8_paint_1 : decode cX8_paint 1 = .ok (.aload_n 0, 1) := by decide +kernel
theorem dX8_paint_2 : decode cX8_paint 2 = .ok (.iload_n 1, 1) := by decide +kernel
theorem dX8_paint_3 : decode cX8_paint 3 = .ok (.invokevirtual 136, 3) := by decide +kernel
theorem dX8_paint_6 : decode cX8_paint 6 = .ok (.ifCond .eq 15, 3) := by decide +kernel
theorem dX8_paint_9 : decode cX8_paint 9 = .ok (.aload_n 0, 1) := by decide +kernel
theorem dX8_paint_10 : decode cX8_paint 10 = .ok (.iload_n 2, 1) := by decide +kernel
theorem dX8_paint_11 : decode cX8_paint 11 = .ok (.invokevirtual 158, 3) := by decide +kernel
theorem dX8_paint_14 : decode cX8_paint 14 = .ok (.ifCond .eq 7, 3) := by decide +kernel
theorem dX8_paint_17 : decode cX8_paint 17 = .ok (.iconst 0, 1) := by decide +kernel
theorem dX8_paint_18 : decode cX8_paint 18 = .ok (.goto 4, 3) := by decide +kernel
theorem dX8_paint_21 : decode cX8_paint 21 = .ok (.iconst 1, 1) := by decide +kernel
theorem dX8_paint_22 : decode cX8_paint 22 = .ok (.putfield 92, 3) := by decide +kernel
theorem dX8_paint_25 : decode cX8_paint 25 = .ok (.aload_n 0, 1) := by decide +kernel
theorem dX8_paint_26 : decode cX8_paint 26 = .ok (.getfield 92, 3) := by decide +kernel
theorem dX8_paint_29 : decode cX8_paint 29 = .ok (.ifCond .le 5, 3) := by decide +kernel
theorem dX8_paint_32 : decode cX8_paint 32 = .ok (.iconst 0, 1) := by decide +kernel
theorem dX8_paint_33 : decode cX8_paint 33 = .ok (.ireturn, 1) := by decide +kernel
theorem dX8_paint_34 : decode cX8_paint 34 = .ok (.aload_n 0, 1) := by decide +kernel
theorem dX8_paint_35 : decode cX8_paint 35 = .ok (.getfield 77, 3) := by decide +kernel
theorem dX8_paint_38 : decode cX8_paint 38 = .ok (.bipush 20, 2) := by decide +kernel
theorem dX8_paint_40 : decode cX8_paint 40 = .ok (.iload_n 1, 1) := by decide +kernel
theorem dX8_paint_41 : decode cX8_paint 41 = .ok (.imul, 1) := by decide +kernel
theorem dX8_paint_42 : decode cX8_paint 42 = .ok (.iload_n 2, 1) := by decide +kernel
theorem dX8_paint_43 : decode cX8_paint 43 = .ok (.iadd, 1) := by decide +kernel
theorem dX8_paint_44 : decode cX8_paint 44 = .ok (.baload, 1) := by decide +kernel
theorem dX8_paint_45 : decode cX8_paint 45 = .ok (.istore_n 3, 1) := by decide +kernel
theorem dX8_paint_46 : decode cX8_paint 46 = .ok (.aload_n 0, 1) := by decide +kernel
theorem dX8_paint_47 : decode cX8_paint 47 = .ok (.getfield 77, 3) := by decide +kernel
theorem dX8_paint_50 : decode cX8_paint 50 = .ok (.bipush 20, 2) := by decide +kernel
theorem dX8_paint_52 : decode cX8_paint 52 = .ok (.iload_n 1, 1) := by decide +kernel
theorem dX8_paint_53 : decode cX8_paint 53 = .ok (.imul, 1) := by decide +kernel
theorem dX8_paint_54 : decode cX8_paint 54 = .ok (.iload_n 2, 1) := by decide +kernel
theorem dX8_paint_55 : decode cX8_paint 55 = .ok (.iadd, 1) := by decide +kernel
theorem dX8_paint_56 : decode cX8_paint 56 = .ok (.iconst 0, 1) := by decide +kernel
theorem dX8_paint_57 : decode cX8_paint 57 = .ok (.bastore, 1) := by decide +kernel
theorem dX8_paint_58 : decode cX8_paint 58 = .ok (.iload_n 3, 1) := by decide +kernel
theorem dX8_paint_59 : decode cX8_paint 59 = .ok (.ireturn, 1) := by decide +kernel
theorem dX8_told_0 : decode cX8_told 0 = .ok (.aload_n 0, 1) := by decide +kernel
theorem dX8_told_1 : decode cX8_told 1 = .ok (.iload_n 1, 1) := by decide +kernel
theorem dX8_told_2 : decode cX8_told 2 = .ok (.iconst 0, 1) := by decide +kernel
theorem dX8_told_3 : decode cX8_told 3 = .ok (.aload_n 0, 1) := by decide +kernel
theorem dX8_told_4 : decode cX8_told 4 = .ok (.getfield 116, 3) := by decide +kernel
theorem dX8_told_7 : decode cX8_told 7 = .ok (.iconst 1, 1) := by decide +kernel
theorem dX8_told_8 : decode cX8_told 8 = .ok (.isub, 1) := by decide +kernel
theorem dX8_told_9 : decode cX8_told 9 = .ok (.invokestatic 96, 3) := by decide +kernel
theorem dX8_told_12 : decode cX8_told 12 = .ok (.ifCond .eq 7, 3) := by decide +kernel
theorem dX8_told_15 : decode cX8_told 15 = .ok (.iconst 0, 1) := by decide +kernel
theorem dX8_told_16 : decode cX8_told 16 = .ok (.goto 4, 3) := by decide +kernel
theorem dX8_told_19 : decode cX8_told 19 = .ok (.iconst 1, 1) := by decide +kernel
theorem dX8_told_20 : decode cX8_told 20 = .ok (.putfield 92, 3) := by decide +kernel
theorem dX8_told_23 : decode cX8_told 23 = .ok (.aload_n 0, 1) := by decide +kernel
theorem dX8_told_24 : decode cX8_told 24 = .ok (.getfield 92, 3) := by decide +kernel
theorem dX8_told_27 : decode cX8_told 27 = .ok (.ifCond .le 7, 3) := by decide +kernel
theorem dX8_told_30 : decode cX8_told 30 = .ok (.iconst 0, 1) := by decide +kernel
theorem dX8_told_31 : decode cX8_told 31 = .ok (.goto 22, 3) := by decide +kernel
theorem dX8_told_34 : decode cX8_told 34 = .ok (.iload_n 2, 1) := by decide +kernel
theorem dX8_told_35 : decode cX8_told 35 = .ok (.ifCond .eq 12, 3) := by decide +kernel
theorem dX8_told_38 : decode cX8_told 38 = .ok (.aload_n 0, 1) := by decide +kernel
theorem dX8_told_39 : decode cX8_told 39 = .ok (.getfield 34, 3) := by decide +kernel
theorem dX8_told_42 : decode cX8_told 42 = .ok (.iload_n 1, 1) := by decide +kernel
theorem dX8_told_43 : decode cX8_told 43 = .ok (.iaload, 1) := by decide +kernel
theorem dX8_told_44 : decode cX8_told 44 = .ok (.goto 9, 3) := by decide +kernel
theorem dX8_told_47 : decode cX8_told 47 = .ok (.aload_n 0, 1) := by decide +kernel
theorem dX8_told_48 : decode cX8_told 48 = .ok (.getfield 37, 3) := by decide +kernel
theorem dX8_told_51 : decode cX8_told 51 = .ok (.iload_n 1, 1) := by decide +kernel
theorem dX8_told_52 : decode cX8_told 52 = .ok (.iaload, 1) := by decide +kernel
theorem dX8_told_53 : decode cX8_told 53 = .ok (.ireturn, 1) := by decide +kernel
theorem dX8_at_0 : decode cX8_at 0 = .ok (.aload_n 0, 1) := by decide +kernel
theorem dX8_at_1 : decode cX8_at 1 = .ok (.aload_n 0, 1) := by decide +kernel
theorem dX8_at_2 : decode cX8_at 2 = .ok (.iload_n 1, 1) := by decide +kernel
theorem dX8_at_3 : decode cX8_at 3 = .ok (.invokevirtual 136, 3) := by decide +kernel
theorem dX8_at_6 : decode cX8_at 6 = .ok (.ifCond .eq 10, 3) := by decide +kernel
theorem dX8_at_9 : decode cX8_at 9 = .ok (.iload_n 2, 1) := by decide +kernel
theorem dX8_at_10 : decode cX8_at 10 = .ok (.invokestatic 113, 3) := by decide +kernel
theorem dX8_at_13 : decode cX8_at 13 = .ok (.ifCond .ne 7, 3) := by decide +kernel
theorem dX8_at_16 : decode cX8_at 16 = .ok (.iconst 1, 1) := by decide +kernel
theorem dX8_at_17 : decode cX8_at 17 = .ok (.goto 17, 3) := by decide +kernel
theorem dX8_at_20 : decode cX8_at 20 = .ok (.iload_n 3, 1) := by decide +kernel
theorem dX8_at_21 : decode cX8_at 21 = .ok (.iconst 0, 1) := by decide +kernel
theorem dX8_at_22 : decode cX8_at 22 = .ok (.iconst 5, 1) := by decide +kernel
theorem dX8_at_23 : decode cX8_at 23 = .ok (.invokestatic 96, 3) := by decide +kernel
theorem dX8_at_26 : decode cX8_at 26 = .ok (.ifCond .ne 7, 3) := by decide +kernel
theorem dX8_at_29 : decode cX8_at 29 = .ok (.iconst 2, 1) := by decide +kernel
theorem dX8_at_30 : decode cX8_at 30 = .ok (.goto 4, 3) := by decide +kernel
theorem dX8_at_33 : decode cX8_at 33 = .ok (.iconst 0, 1) := by decide +kernel
theorem dX8_at_34 : decode cX8_at 34 = .ok (.putfield 92, 3) := by decide +kernel
theorem dX8_at_37 : decode cX8_at 37 = .ok (.aload_n 0, 1) := by decide +kernel
theorem dX8_at_38 : decode cX8_at 38 = .ok (.getfield 92, 3) := by decide +kernel
theorem dX8_at_41 : decode cX8_at 41 = .ok (.ifCond .le 5, 3) := by decide +kernel
theorem dX8_at_44 : decode cX8_at 44 = .ok (.iconst 0, 1) := by decide +kernel
theorem dX8_at_45 : decode cX8_at 45 = .ok (.ireturn, 1) := by decide +kernel
theorem dX8_at_46 : decode cX8_at 46 = .ok (.bipush 24, 2) := by decide +kernel
theorem dX8_at_48 : decode cX8_at 48 = .ok (.iload_n 1, 1) := by decide +kernel
theorem dX8_at_49 : decode cX8_at 49 = .ok (.imul, 1) := by decide +kernel
theorem dX8_at_50 : decode cX8_at 50 = .ok (.iload_n 2, 1) := by decide +kernel
theorem dX8_at_51 : decode cX8_at 51 = .ok (.iadd, 1) := by decide +kernel
theorem dX8_at_52 : decode cX8_at 52 = .ok (.istore 4, 2) := by decide +kernel
theorem dX8_at_54 : decode cX8_at 54 = .ok (.iload_n 3, 1) := by decide +kernel
theorem dX8_at_55 : decode cX8_at 55 = .ok (.iconst 2, 1) := by decide +kernel
theorem dX8_at_56 : decode cX8_at 56 = .ok (.if_icmp .ne 11, 3) := by decide +kernel
theorem dX8_at_59 : decode cX8_at 59 = .ok (.aload_n 0, 1) := by decide +kernel
theorem dX8_at_60 : decode cX8_at 60 = .ok (.getfield 56, 3) := by decide +kernel
theorem dX8_at_63 : decode cX8_at 63 = .ok (.iload 4, 2) := by decide +kernel
theorem dX8_at_65 : decode cX8_at 65 = .ok (.iaload, 1) := by decide +kernel
theorem dX8_at_66 : decode cX8_at 66 = .ok (.ireturn, 1) := by decide +kernel
theorem dX8_at_67 : decode cX8_at 67 = .ok (.iload_n 3, 1) := by decide +kernel
theorem dX8_at_68 : decode cX8_at 68 = .ok (.iconst 3, 1) := by decide +kernel
theorem dX8_at_69 : decode cX8_at 69 = .ok (.if_icmp .ne 10, 3) := by decide +kernel
theorem dX8_at_72 : decode cX8_at 72 = .ok (.aload_n 0, 1) := by decide +kernel
theorem dX8_at_73 : decode cX8_at 73 = .ok (.iload_n 1, 1) := by decide +kernel
theorem dX8_at_74 : decode cX8_at 74 = .ok (.iload_n 2, 1) := by decide +kernel
theorem dX8_at_75 : decode cX8_at 75 = .ok (.invokevirtual 143, 3) := by decide +kernel
theorem dX8_at_78 : decode cX8_at 78 = .ok (.ireturn, 1) := by decide +kernel
theorem dX8_at_79 : decode cX8_at 79 = .ok (.aload_n 0, 1) := by decide +kernel
theorem dX8_at_80 : decode cX8_at 80 = .ok (.getfield 46, 3) := by decide +kernel
theorem dX8_at_83 : decode cX8_at 83 = .ok (.iload 4, 2) := by decide +kernel
theorem dX8_at_85 : decode cX8_at 85 = .ok (.baload, 1) := by decide +kernel
theorem dX8_at_86 : decode cX8_at 86 = .ok (.ifCond .ne 6, 3) := by decide +kernel
theorem dX8_at_89 : decode cX8_at 89 = .ok (.ldc 161, 2) := by decide +kernel
theorem dX8_at_91 : decode cX8_at 91 = .ok (.ireturn, 1) := by decide +kernel
theorem dX8_at_92 : decode cX8_at 92 = .ok (.iload_n 3, 1) := by decide +kernel
theorem dX8_at_93 : decode cX8_at 93 = .ok (.ifCond .ne 13, 3) := by decide +kernel
theorem dX8_at_96 : decode cX8_at 96 = .ok (.aload_n 0, 1) := by decide +kernel
theorem dX8_at_97 : decode cX8_at 97 = .ok (.getfield 50, 3) := by decide +kernel
theorem dX8_at_100 : decode cX8_at 100 = .ok (.iload 4, 2) := by decide +kernel
theorem dX8_at_102 : decode cX8_at 102 = .ok (.iaload, 1) := by decide +kernel
theorem dX8_at_103 : decode cX8_at 103 = .ok (.goto 54, 3) := by decide +kernel
theorem dX8_at_106 : decode cX8_at 106 = .ok (.iload_n 3, 1) := by decide +kernel
theorem dX8_at_107 : decode cX8_at 107 = .ok (.iconst 1, 1) := by decide +kernel
theorem dX8_at_108 : decode cX8_at 108 = .ok (.if_icmp .ne 13, 3) := by decide +kernel
theorem dX8_at_111 : decode cX8_at 111 = .ok (.aload_n 0, 1) := by decide +kernel
theorem dX8_at_112 : decode cX8_at 112 = .ok (.getfield 53, 3) := by decide +kernel
theorem dX8_at_115 : decode cX8_at 115 = .ok (.iload 4, 2) := by decide +kernel
theorem dX8_at_117 : decode cX8_at 117 = .ok (.iaload, 1) := by decide +kernel
theorem dX8_at_118 : decode cX8_at 118 = .ok (.goto 39, 3) := by decide +kernel
theorem dX8_at_121 : decode cX8_at 121 = .ok (.iload_n 3, 1) := by decide +kernel
theorem dX8_at_122 : decode cX8_at 122 = .ok (.iconst 4, 1) := by decide +kernel
theorem dX8_at_123 : decode cX8_at 123 = .ok (.if_icmp .ne 20, 3) := by decide +kernel
theorem dX8_at_126 : decode cX8_at 126 = .ok (.aload_n 0, 1) := by decide +kernel
theorem dX8_at_127 : decode cX8_at 127 = .ok (.getfield 50, 3) := by decide +kernel
theorem dX8_at_130 : decode cX8_at 130 = .ok (.iload 4, 2) := by decide +kernel
theorem dX8_at_132 : decode cX8_at 132 = .ok (.iaload, 1) := by decide +kernel
theorem dX8_at_133 : decode cX8_at 133 = .ok (.aload_n 0, 1) := by decide +kernel
theorem dX8_at_134 : decode cX8_at 134 = .ok (.getfield 7, 3) := by decide +kernel
theorem dX8_at_137 : decode cX8_at 137 = .ok (.iload_n 2, 1) := by decide +kernel
theorem dX8_at_138 : decode cX8_at 138 = .ok (.iaload, 1) := by decide +kernel
theorem dX8_at_139 : decode cX8_at 139 = .ok (.isub, 1) := by decide +kernel
theorem dX8_at_140 : decode cX8_at 140 = .ok (.goto 17, 3) := by decide +kernel
theorem dX8_at_143 : decode cX8_at 143 = .ok (.aload_n 0, 1) := by decide +kernel
theorem dX8_at_144 : decode cX8_at 144 = .ok (.getfield 53, 3) := by decide +kernel
theorem dX8_at_147 : decode cX8_at 147 = .ok (.iload 4, 2) := by decide +kernel
theorem dX8_at_149 : decode cX8_at 149 = .ok (.iaload, 1) := by decide +kernel
theorem dX8_at_150 : decode cX8_at 150 = .ok (.aload_n 0, 1) := by decide +kernel
theorem dX8_at_151 : decode cX8_at 151 = .ok (.getfield 13, 3) := by decide +kernel
theorem dX8_at_154 : decode cX8_at 154 = .ok (.iload_n 2, 1) := by decide +kernel
theorem dX8_at_155 : decode cX8_at 155 = .ok (.iaload, 1) := by decide +kernel
theorem dX8_at_156 : decode cX8_at 156 = .ok (.isub, 1) := by decide +kernel
theorem dX8_at_157 : decode cX8_at 157 = .ok (.ireturn, 1) := by decide +kernel
theorem dX8_chain_0 : decode cX8_chain 0 = .ok (.aload_n 0, 1) := by decide +kernel
theorem dX8_chain_1 : decode cX8_chain 1 = .ok (.aload_n 0, 1) := by decide +kernel
theorem dX8_chain_2 : decode cX8_chain 2 = .ok (.iload_n 1, 1) := by decide +kernel
theorem dX8_chain_3 : decode cX8_chain 3 = .ok (.invokevirtual 136, 3) := by decide +kernel
theorem dX8_chain_6 : decode cX8_chain 6 = .ok (.ifCond .eq 18, 3) := by decide +kernel
theorem dX8_chain_9 : decode cX8_chain 9 = .ok (.iload_n 2, 1) := by decide +kernel
theorem dX8_chain_10 : decode cX8_chain 10 = .ok (.invokestatic 113, 3) := by decide +kernel
theorem dX8_chain_13 : decode cX8_chain 13 = .ok (.ifCond .eq 11, 3) := by decide +kernel
theorem dX8_chain_16 : decode cX8_chain 16 = .ok (.iload_n 3, 1) := by decide +kernel
theorem dX8_chain_17 : decode cX8_chain 17 = .ok (.ifCond .lt 7, 3) := by decide +kernel
theorem dX8_chain_20 : decode cX8_chain 20 = .ok (.iconst 0, 1) := by decide +kernel
theorem dX8_chain_21 : decode cX8_chain 21 = .ok (.goto 4, 3) := by decide +kernel
theorem dX8_chain_24 : decode cX8_chain 24 = .ok (.iconst 1, 1) := by decide +kernel
theorem dX8_chain_25 : decode cX8_chain 25 = .ok (.putfield 92, 3) := by decide +kernel
theorem dX8_chain_28 : decode cX8_chain 28 = .ok (.aload_n 0, 1) := by decide +kernel
theorem dX8_chain_29 : decode cX8_chain 29 = .ok (.getfield 92, 3) := by decide +kernel
theorem dX8_chain_32 : decode cX8_chain 32 = .ok (.ifCond .le 5, 3) := by decide +kernel
theorem dX8_chain_35 : decode cX8_chain 35 = .ok (.iconst 0, 1) := by decide +kernel
theorem dX8_chain_36 : decode cX8_chain 36 = .ok (.ireturn, 1) := by decide +kernel
theorem dX8_chain_37 : decode cX8_chain 37 = .ok (.aload_n 0, 1) := by decide +kernel
theorem dX8_chain_38 : decode cX8_chain 38 = .ok (.getfield 46, 3) := by decide +kernel
theorem dX8_chain_41 : decode cX8_chain 41 = .ok (.bipush 24, 2) := by decide +kernel
theorem dX8_chain_43 : decode cX8_chain 43 = .ok (.iload_n 1, 1) := by decide +kernel
theorem dX8_chain_44 : decode cX8_chain 44 = .ok (.imul, 1) := by decide +kernel
theorem dX8_chain_45 : decode cX8_chain 45 = .ok (.iload_n 2, 1) := by decide +kernel
theorem dX8_chain_46 : decode cX8_chain 46 = .ok (.iadd, 1) := by decide +kernel
theorem dX8_chain_47 : decode cX8_chain 47 = .ok (.baload, 1) := by decide +kernel
theorem dX8_chain_48 : decode cX8_chain 48 = .ok (.ifCond .eq 7, 3) := by decide +kernel
theorem dX8_chain_51 : decode cX8_chain 51 = .ok (.iload_n 1, 1) := by decide +kernel
theorem dX8_chain_52 : decode cX8_chain 52 = .ok (.goto 4, 3) := by decide +kernel
theorem dX8_chain_55 : decode cX8_chain 55 = .ok (.iconst (-1), 1) := by decide +kernel
theorem dX8_chain_56 : decode cX8_chain 56 = .ok (.istore 4, 2) := by decide +kernel
theorem dX8_chain_58 : decode cX8_chain 58 = .ok (.iconst 0, 1) := by decide +kernel
theorem dX8_chain_59 : decode cX8_chain 59 = .ok (.istore 5, 2) := by decide +kernel
theorem dX8_chain_61 : decode cX8_chain 61 = .ok (.iload 5, 2) := by decide +kernel
theorem dX8_chain_63 : decode cX8_chain 63 = .ok (.iload_n 3, 1) := by decide +kernel
theorem dX8_chain_64 : decode cX8_chain 64 = .ok (.if_icmp .ge 24, 3) := by decide +kernel
theorem dX8_chain_67 : decode cX8_chain 67 = .ok (.iload 4, 2) := by decide +kernel
theorem dX8_chain_69 : decode cX8_chain 69 = .ok (.iconst (-1), 1) := by decide +kernel
theorem dX8_chain_70 : decode cX8_chain 70 = .ok (.if_icmp .eq 18, 3) := by decide +kernel
theorem dX8_chain_73 : decode cX8_chain 73 = .ok (.aload_n 0, 1) := by decide +kernel
theorem dX8_chain_74 : decode cX8_chain 74 = .ok (.iload 4, 2) := by decide +kernel
theorem dX8_chain_76 : decode cX8_chain 76 = .ok (.iload_n 2, 1) := by decide +kernel
theorem dX8_chain_77 : decode cX8_chain 77 = .ok (.invokevirtual 143, 3) := by decide +kernel
theorem dX8_chain_80 : decode cX8_chain 80 = .ok (.istore 4, 2) := by decide +kernel
theorem dX8_chain_82 : decode cX8_chain 82 = .ok (.iinc 5 1, 3) := by decide +kernel
theorem dX8_chain_85 : decode cX8_chain 85 = .ok (.goto (-24), 3) := by decide +kernel
theorem dX8_chain_88 : decode cX8_chain 88 = .ok (.iload 4, 2) := by decide +kernel
theorem dX8_chain_90 : decode cX8_chain 90 = .ok (.ireturn, 1) := by decide +kernel
theorem dX8_of_0 : decode cX8_of 0 = .ok (.aload_n 0, 1) := by decide +kernel
theorem dX8_of_1 : decode cX8_of 1 = .ok (.aload_n 0, 1) := by decide +kernel
theorem dX8_of_2 : decode cX8_of 2 = .ok (.iload_n 1, 1) := by decide +kernel
theorem dX8_of_3 : decode cX8_of 3 = .ok (.invokevirtual 136, 3) := by decide +kernel
theorem dX8_of_6 : decode cX8_of 6 = .ok (.ifCond .ne 7, 3) := by decide +kernel
theorem dX8_of_9 : decode cX8_of 9 = .ok (.iconst 1, 1) := by decide +kernel
theorem dX8_of_10 : decode cX8_of 10 = .ok (.goto 18, 3) := by decide +kernel
theorem dX8_of_13 : decode cX8_of 13 = .ok (.iload_n 2, 1) := by decide +kernel
theorem dX8_of_14 : decode cX8_of 14 = .ok (.iconst 0, 1) := by decide +kernel
theorem dX8_of_15 : decode cX8_of 15 = .ok (.bipush 6, 2) := by decide +kernel
theorem dX8_of_17 : decode cX8_of 17 = .ok (.invokestatic 96, 3) := by decide +kernel
theorem dX8_of_20 : decode cX8_of 20 = .ok (.ifCond .ne 7, 3) := by decide +kernel
theorem dX8_of_23 : decode cX8_of 23 = .ok (.iconst 2, 1) := by decide +kernel
theorem dX8_of_24 : decode cX8_of 24 = .ok (.goto 4, 3) := by decide +kernel
theorem dX8_of_27 : decode cX8_of 27 = .ok (.iconst 0, 1) := by decide +kernel
theorem dX8_of_28 : decode cX8_of 28 = .ok (.putfield 92, 3) := by decide +kernel
theorem dX8_of_31 : decode cX8_of 31 = .ok (.aload_n 0, 1) := by decide +kernel
theorem dX8_of_32 : decode cX8_of 32 = .ok (.getfield 92, 3) := by decide +kernel
theorem dX8_of_35 : decode cX8_of 35 = .ok (.ifCond .le 5, 3) := by decide +kernel
theorem dX8_of_38 : decode cX8_of 38 = .ok (.iconst 0, 1) := by decide +kernel
theorem dX8_of_39 : decode cX8_of 39 = .ok (.ireturn, 1) := by decide +kernel
theorem dX8_of_40 : decode cX8_of 40 = .ok (.iconst 0, 1) := by decide +kernel
theorem dX8_of_41 : decode cX8_of 41 = .ok (.istore_n 3, 1) := by decide +kernel
theorem dX8_of_42 : decode cX8_of 42 = .ok (.iconst 0, 1) := by decide +kernel
theorem dX8_of_43 : decode cX8_of 43 = .ok (.istore 4, 2) := by decide +kernel
theorem dX8_of_45 : decode cX8_of 45 = .ok (.iconst 0, 1) := by decide +kernel
theorem dX8_of_46 : decode cX8_of 46 = .ok (.istore 5, 2) := by decide +kernel
theorem dX8_of_48 : decode cX8_of 48 = .ok (.iload 5, 2) := by decide +kernel
theorem dX8_of_50 : decode cX8_of 50 = .ok (.bipush 24, 2) := by decide +kernel
theorem dX8_of_52 : decode cX8_of 52 = .ok (.if_icmp .ge 64, 3) := by decide +kernel
theorem dX8_of_55 : decode cX8_of 55 = .ok (.iload_n 3, 1) := by decide +kernel
theorem dX8_of_56 : decode cX8_of 56 = .ok (.aload_n 0, 1) := by decide +kernel
theorem dX8_of_57 : decode cX8_of 57 = .ok (.getfield 46, 3) := by decide +kernel
theorem dX8_of_60 : decode cX8_of 60 = .ok (.bipush 24, 2) := by decide +kernel
theorem dX8_of_62 : decode cX8_of 62 = .ok (.iload_n 1, 1) := by decide +kernel
theorem dX8_of_63 : decode cX8_of 63 = .ok (.imul, 1) := by decide +kernel
theorem dX8_of_64 : decode cX8_of 64 = .ok (.iload 5, 2) := by decide +kernel
theorem dX8_of_66 : decode cX8_of 66 = .ok (.iadd, 1) := by decide +kernel
theorem dX8_of_67 : decode cX8_of 67 = .ok (.baload, 1) := by decide +kernel
theorem dX8_of_68 : decode cX8_of 68 = .ok (.ifCond .eq 7, 3) := by decide +kernel
theorem dX8_of_71 : decode cX8_of 71 = .ok (.iconst 1, 1) := by decide +kernel
theorem dX8_of_72 : decode cX8_of 72 = .ok (.goto 4, 3) := by decide +kernel
theorem dX8_of_75 : decode cX8_of 75 = .ok (.iconst 0, 1) := by decide +kernel
theorem dX8_of_76 : decode cX8_of 76 = .ok (.iadd, 1) := by decide +kernel
theorem dX8_of_77 : decode cX8_of 77 = .ok (.istore_n 3, 1) := by decide +kernel
theorem dX8_of_78 : decode cX8_of 78 = .ok (.iload 4, 2) := by decide +kernel
theorem dX8_of_80 : decode cX8_of 80 = .ok (.aload_n 0, 1) := by decide +kernel
theorem dX8_of_81 : decode cX8_of 81 = .ok (.getfield 56, 3) := by decide +kernel
theorem dX8_of_84 : decode cX8_of 84 = .ok (.bipush 24, 2) := by decide +kernel
theorem dX8_of_86 : decode cX8_of 86 = .ok (.iload_n 1, 1) := by decide +kernel
theorem dX8_of_87 : decode cX8_of 87 = .ok (.imul, 1) := by decide +kernel
theorem dX8_of_88 : decode cX8_of 88 = .ok (.iload 5, 2) := by decide +kernel
theorem dX8_of_90 : decode cX8_of 90 = .ok (.iadd, 1) := by decide +kernel
theorem dX8_of_91 : decode cX8_of 91 = .ok (.iaload, 1) := by decide +kernel
theorem dX8_of_92 : decode cX8_of 92 = .ok (.aload_n 0, 1) := by decide +kernel
theorem dX8_of_93 : decode cX8_of 93 = .ok (.getfield 16, 3) := by decide +kernel
theorem dX8_of_96 : decode cX8_of 96 = .ok (.iload 5, 2) := by decide +kernel
theorem dX8_of_98 : decode cX8_of 98 = .ok (.iaload, 1) := by decide +kernel
theorem dX8_of_99 : decode cX8_of 99 = .ok (.if_icmp .eq 7, 3) := by decide +kernel
theorem dX8_of_102 : decode cX8_of 102 = .ok (.iconst 1, 1) := by decide +kernel
theorem dX8_of_103 : decode cX8_of 103 = .ok (.goto 4, 3) := by decide +kernel
theorem dX8_of_106 : decode cX8_of 106 = .ok (.iconst 0, 1) := by decide +kernel
theorem dX8_of_107 : decode cX8_of 107 = .ok (.iadd, 1) := by decide +kernel
theorem dX8_of_108 : decode cX8_of 108 = .ok (.istore 4, 2) := by decide +kernel
theorem dX8_of_110 : decode cX8_of 110 = .ok (.iinc 5 1, 3) := by decide +kernel
theorem dX8_of_113 : decode cX8_of 113 = .ok (.goto (-65), 3) := by decide +kernel
theorem dX8_of_116 : decode cX8_of 116 = .ok (.iconst 0, 1) := by decide +kernel
theorem dX8_of_117 : decode cX8_of 117 = .ok (.istore 5, 2) := by decide +kernel
theorem dX8_of_119 : decode cX8_of 119 = .ok (.iconst 0, 1) := by decide +kernel
theorem dX8_of_120 : decode cX8_of 120 = .ok (.istore 6, 2) := by decide +kernel
theorem dX8_of_122 : decode cX8_of 122 = .ok (.iload 6, 2) := by decide +kernel
theorem dX8_of_124 : decode cX8_of 124 = .ok (.aload_n 0, 1) := by decide +kernel
theorem dX8_of_125 : decode cX8_of 125 = .ok (.getfield 103, 3) := by decide +kernel
theorem dX8_of_128 : decode cX8_of 128 = .ok (.if_icmp .ge 34, 3) := by decide +kernel
theorem dX8_of_131 : decode cX8_of 131 = .ok (.iload 5, 2) := by decide +kernel
theorem dX8_of_133 : decode cX8_of 133 = .ok (.aload_n 0, 1) := by decide +kernel
theorem dX8_of_134 : decode cX8_of 134 = .ok (.getfield 77, 3) := by decide +kernel
theorem dX8_of_137 : decode cX8_of 137 = .ok (.bipush 20, 2) := by decide +kernel
theorem dX8_of_139 : decode cX8_of 139 = .ok (.iload_n 1, 1) := by decide +kernel
theorem dX8_of_140 : decode cX8_of 140 = .ok (.imul, 1) := by decide +kernel
theorem dX8_of_141 : decode cX8_of 141 = .ok (.iload 6, 2) := by decide +kernel
theorem dX8_of_143 : decode cX8_of 143 = .ok (.iadd, 1) := by decide +kernel
theorem dX8_of_144 : decode cX8_of 144 = .ok (.baload, 1) := by decide +kernel
theorem dX8_of_145 : decode cX8_of 145 = .ok (.ifCond .eq 7, 3) := by decide +kernel
theorem dX8_of_148 : decode cX8_of 148 = .ok (.iconst 1, 1) := by decide +kernel
theorem dX8_of_149 : decode cX8_of 149 = .ok (.goto 4, 3) := by decide +kernel
theorem dX8_of_152 : decode cX8_of 152 = .ok (.iconst 0, 1) := by decide +kernel
theorem dX8_of_153 : decode cX8_of 153 = .ok (.iadd, 1) := by decide +kernel
theorem dX8_of_154 : decode cX8_of 154 = .ok (.istore 5, 2) := by decide +kernel
theorem dX8_of_156 : decode cX8_of 156 = .ok (.iinc 6 1, 3) := by decide +kernel
theorem dX8_of_159 : decode cX8_of 159 = .ok (.goto (-37), 3) := by decide +kernel
theorem dX8_of_162 : decode cX8_of 162 = .ok (.iload_n 2, 1) := by decide +kernel
theorem dX8_of_163 : decode cX8_of 163 = .ok (.ifCond .ne 12, 3) := by decide +kernel
theorem dX8_of_166 : decode cX8_of 166 = .ok (.aload_n 0, 1) := by decide +kernel
theorem dX8_of_167 : decode cX8_of 167 = .ok (.getfield 40, 3) := by decide +kernel
theorem dX8_of_170 : decode cX8_of 170 = .ok (.iload_n 1, 1) := by decide +kernel
theorem dX8_of_171 : decode cX8_of 171 = .ok (.iaload, 1) := by decide +kernel
theorem dX8_of_172 : decode cX8_of 172 = .ok (.goto 45, 3) := by decide +kernel
theorem dX8_of_175 : decode cX8_of 175 = .ok (.iload_n 2, 1) := by decide +kernel
theorem dX8_of_176 : decode cX8_of 176 = .ok (.iconst 1, 1) := by decide +kernel
theorem dX8_of_177 : decode cX8_of 177 = .ok (.if_icmp .ne 7, 3) := by decide +kernel
theorem dX8_of_180 : decode cX8_of 180 = .ok (.iload_n 3, 1) := by decide +kernel
theorem dX8_of_181 : decode cX8_of 181 = .ok (.goto 36, 3) := by decide +kernel
theorem dX8_of_184 : decode cX8_of 184 = .ok (.iload_n 2, 1) := by decide +kernel
theorem dX8_of_185 : decode cX8_of 185 = .ok (.iconst 2, 1) := by decide +kernel
theorem dX8_of_186 : decode cX8_of 186 = .ok (.if_icmp .ne 8, 3) := by decide +kernel
theorem dX8_of_189 : decode cX8_of 189 = .ok (.iload 5, 2) := by decide +kernel
theorem dX8_of_191 : decode cX8_of 191 = .ok (.goto 26, 3) := by decide +kernel
theorem dX8_of_194 : decode cX8_of 194 = .ok (.iload_n 2, 1) := by decide +kernel
theorem dX8_of_195 : decode cX8_of 195 = .ok (.bipush 6, 2) := by decide +kernel
theorem dX8_of_197 : decode cX8_of 197 = .ok (.if_icmp .ne 8, 3) := by decide +kernel
theorem dX8_of_200 : decode cX8_of 200 = .ok (.iload 4, 2) := by decide +kernel
theorem dX8_of_202 : decode cX8_of 202 = .ok (.goto 15, 3) := by decide +kernel
theorem dX8_of_205 : decode cX8_of 205 = .ok (.aload_n 0, 1) := by decide +kernel
theorem dX8_of_206 : decode cX8_of 206 = .ok (.getfield 43, 3) := by decide +kernel
theorem dX8_of_209 : decode cX8_of 209 = .ok (.iconst 3, 1) := by decide +kernel
theorem dX8_of_210 : decode cX8_of 210 = .ok (.iload_n 1, 1) := by decide +kernel
theorem dX8_of_211 : decode cX8_of 211 = .ok (.imul, 1) := by decide +kernel
theorem dX8_of_212 : decode cX8_of 212 = .ok (.iload_n 2, 1) := by decide +kernel
theorem dX8_of_213 : decode cX8_of 213 = .ok (.iadd, 1) := by decide +kernel
theorem dX8_of_214 : decode cX8_of 214 = .ok (.iconst 3, 1) := by decide +kernel
theorem dX8_of_215 : decode cX8_of 215 = .ok (.isub, 1) := by decide +kernel
theorem dX8_of_216 : decode cX8_of 216 = .ok (.iaload, 1) := by decide +kernel
theorem dX8_of_217 : decode cX8_of 217 = .ok (.ireturn, 1) := by decide +kernel
theorem dX8_ofIsland_0 : decode cX8_ofIsland 0 = .ok (.aload_n 0, 1) := by decide +kernel
theorem dX8_ofIsland_1 : decode cX8_ofIsland 1 = .ok (.aload_n 0, 1) := by decide +kernel
theorem dX8_ofIsland_2 : decode cX8_ofIsland 2 = .ok (.iload_n 1, 1) := by decide +kernel
theorem dX8_ofIsland_3 : decode cX8_ofIsland 3 = .ok (.invokevirtual 158, 3) := by decide +kernel
theorem dX8_ofIsland_6 : decode cX8_ofIsland 6 = .ok (.ifCond .ne 7, 3) := by decide +kernel
theorem dX8_ofIsland_9 : decode cX8_ofIsland 9 = .ok (.iconst 1, 1) := by decide +kernel
theorem dX8_ofIsland_10 : decode cX8_ofIsland 10 = .ok (.goto 17, 3) := by decide +kernel
theorem dX8_ofIsland_13 : decode cX8_ofIsland 13 = .ok (.iload_n 2, 1) := by decide +kernel
theorem dX8_ofIsland_14 : decode cX8_ofIsland 14 = .ok (.iconst 0, 1) := by decide +kernel
theorem dX8_ofIsland_15 : decode cX8_ofIsland 15 = .ok (.iconst 4, 1) := by decide +kernel
theorem dX8_ofIsland_16 : decode cX8_ofIsland 16 = .ok (.invokestatic 96, 3) := by decide +kernel
theorem dX8_ofIsland_19 : decode cX8_ofIsland 19 = .ok (.ifCond .ne 7, 3) := by decide +kernel
theorem dX8_ofIsland_22 : decode cX8_ofIsland 22 = .ok (.iconst 2, 1) := by decide +kernel
theorem dX8_ofIsland_23 : decode cX8_ofIsland 23 = .ok (.goto 4, 3) := by decide +kernel
theorem dX8_ofIsland_26 : decode cX8_ofIsland 26 = .ok (.iconst 0, 1) := by decide +kernel
theorem dX8_ofIsland_27 : decode cX8_ofIsland 27 = .ok (.putfield 92, 3) := by decide +kernel
theorem dX8_ofIsland_30 : decode cX8_ofIsland 30 = .ok (.aload_n 0, 1) := by decide +kernel
theorem dX8_ofIsland_31 : decode cX8_ofIsland 31 = .ok (.getfield 92, 3) := by decide +kernel
theorem dX8_ofIsland_34 : decode cX8_ofIsland 34 = .ok (.ifCond .le 5, 3) := by decide +kernel
theorem dX8_ofIsland_37 : decode cX8_ofIsland 37 = .ok (.iconst 0, 1) := by decide +kernel
theorem dX8_ofIsland_38 : decode cX8_ofIsland 38 = .ok (.ireturn, 1) := by decide +kernel
theorem dX8_ofIsland_39 : decode cX8_ofIsland 39 = .ok (.iconst 0, 1) := by decide +kernel
theorem dX8_ofIsland_40 : decode cX8_ofIsland 40 = .ok (.istore_n 3, 1) := by decide +kernel
theorem dX8_ofIsland_41 : decode cX8_ofIsland 41 = .ok (.iconst (-1), 1) := by decide +kernel
theorem dX8_ofIsland_42 : decode cX8_ofIsland 42 = .ok (.istore 4, 2) := by decide +kernel
theorem dX8_ofIsland_44 : decode cX8_ofIsland 44 = .ok (.iconst 0, 1) := by decide +kernel
theorem dX8_ofIsland_45 : decode cX8_ofIsland 45 = .ok (.istore 5, 2) := by decide +kernel
theorem dX8_ofIsland_47 : decode cX8_ofIsland 47 = .ok (.iload 5, 2) := by decide +kernel
theorem dX8_ofIsland_49 : decode cX8_ofIsland 49 = .ok (.aload_n 0, 1) := by decide +kernel
theorem dX8_ofIsland_50 : decode cX8_ofIsland 50 = .ok (.getfield 100, 3) := by decide +kernel
theorem dX8_ofIsland_53 : decode cX8_ofIsland 53 = .ok (.if_icmp .ge 56, 3) := by decide +kernel
theorem dX8_ofIsland_56 : decode cX8_ofIsland 56 = .ok (.iload_n 3, 1) := by decide +kernel
theorem dX8_ofIsland_57 : decode cX8_ofIsland 57 = .ok (.aload_n 0, 1) := by decide +kernel
theorem dX8_ofIsland_58 : decode cX8_ofIsland 58 = .ok (.getfield 77, 3) := by decide +kernel
theorem dX8_ofIsland_61 : decode cX8_ofIsland 61 = .ok (.bipush 20, 2) := by decide +kernel
theorem dX8_ofIsland_63 : decode cX8_ofIsland 63 = .ok (.iload 5, 2) := by decide +kernel
theorem dX8_ofIsland_65 : decode cX8_ofIsland 65 = .ok (.imul, 1) := by decide +kernel
theorem dX8_ofIsland_66 : decode cX8_ofIsland 66 = .ok (.iload_n 1, 1) := by decide +kernel
theorem dX8_ofIsland_67 : decode cX8_ofIsland 67 = .ok (.iadd, 1) := by decide +kernel
theorem dX8_ofIsland_68 : decode cX8_ofIsland 68 = .ok (.baload, 1) := by decide +kernel
theorem dX8_ofIsland_69 : decode cX8_ofIsland 69 = .ok (.ifCond .eq 7, 3) := by decide +kernel
theorem dX8_ofIsland_72 : decode cX8_ofIsland 72 = .ok (.iconst 1, 1) := by decide +kernel
theorem dX8_ofIsland_73 : decode cX8_ofIsland 73 = .ok (.goto 4, 3) := by decide +kernel
theorem dX8_ofIsland_76 : decode cX8_ofIsland 76 = .ok (.iconst 0, 1) := by decide +kernel
theorem dX8_ofIsland_77 : decode cX8_ofIsland 77 = .ok (.iadd, 1) := by decide +kernel
theorem dX8_ofIsland_78 : decode cX8_ofIsland 78 = .ok (.istore_n 3, 1) := by decide +kernel
theorem dX8_ofIsland_79 : decode cX8_ofIsland 79 = .ok (.aload_n 0, 1) := by decide +kernel
theorem dX8_ofIsland_80 : decode cX8_ofIsland 80 = .ok (.getfield 77, 3) := by decide +kernel
theorem dX8_ofIsland_83 : decode cX8_ofIsland 83 = .ok (.bipush 20, 2) := by decide +kernel
theorem dX8_ofIsland_85 : decode cX8_ofIsland 85 = .ok (.iload 5, 2) := by decide +kernel
theorem dX8_ofIsland_87 : decode cX8_ofIsland 87 = .ok (.imul, 1) := by decide +kernel
theorem dX8_ofIsland_88 : decode cX8_ofIsland 88 = .ok (.iload_n 1, 1) := by decide +kernel
theorem dX8_ofIsland_89 : decode cX8_ofIsland 89 = .ok (.iadd, 1) := by decide +kernel
theorem dX8_ofIsland_90 : decode cX8_ofIsland 90 = .ok (.baload, 1) := by decide +kernel
theorem dX8_ofIsland_91 : decode cX8_ofIsland 91 = .ok (.ifCond .eq 8, 3) := by decide +kernel
theorem dX8_ofIsland_94 : decode cX8_ofIsland 94 = .ok (.iload 5, 2) := by decide +kernel
theorem dX8_ofIsland_96 : decode cX8_ofIsland 96 = .ok (.goto 5, 3) := by decide +kernel
theorem dX8_ofIsland_99 : decode cX8_ofIsland 99 = .ok (.iload 4, 2) := by decide +kernel
theorem dX8_ofIsland_101 : decode cX8_ofIsland 101 = .ok (.istore 4, 2) := by decide +kernel
theorem dX8_ofIsland_103 : decode cX8_ofIsland 103 = .ok (.iinc 5 1, 3) := by decide +kernel
theorem dX8_ofIsland_106 : decode cX8_ofIsland 106 = .ok (.goto (-59), 3) := by decide +kernel
theorem dX8_ofIsland_109 : decode cX8_ofIsland 109 = .ok (.iload_n 2, 1) := by decide +kernel
theorem dX8_ofIsland_110 : decode cX8_ofIsland 110 = .ok (.ifCond .ne 7, 3) := by decide +kernel
theorem dX8_ofIsland_113 : decode cX8_ofIsland 113 = .ok (.iload_n 3, 1) := by decide +kernel
theorem dX8_ofIsland_114 : decode cX8_ofIsland 114 = .ok (.goto 47, 3) := by decide +kernel
theorem dX8_ofIsland_117 : decode cX8_ofIsland 117 = .ok (.iload_n 2, 1) := by decide +kernel
theorem dX8_ofIsland_118 : decode cX8_ofIsland 118 = .ok (.iconst 1, 1) := by decide +kernel
theorem dX8_ofIsland_119 : decode cX8_ofIsland 119 = .ok (.if_icmp .ne 12, 3) := by decide +kernel
theorem dX8_ofIsland_122 : decode cX8_ofIsland 122 = .ok (.aload_n 0, 1) := by decide +kernel
theorem dX8_ofIsland_123 : decode cX8_ofIsland 123 = .ok (.getfield 68, 3) := by decide +kernel
theorem dX8_ofIsland_126 : decode cX8_ofIsland 126 = .ok (.iload_n 1, 1) := by decide +kernel
theorem dX8_ofIsland_127 : decode cX8_ofIsland 127 = .ok (.iaload, 1) := by decide +kernel
theorem dX8_ofIsland_128 : decode cX8_ofIsland 128 = .ok (.goto 33, 3) := by decide +kernel
theorem dX8_ofIsland_131 : decode cX8_ofIsland 131 = .ok (.iload_n 2, 1) := by decide +kernel
theorem dX8_ofIsland_132 : decode cX8_ofIsland 132 = .ok (.iconst 2, 1) := by decide +kernel
theorem dX8_ofIsland_133 : decode cX8_ofIsland 133 = .ok (.if_icmp .ne 12, 3) := by decide +kernel
theorem dX8_ofIsland_136 : decode cX8_ofIsland 136 = .ok (.aload_n 0, 1) := by decide +kernel
theorem dX8_ofIsland_137 : decode cX8_ofIsland 137 = .ok (.getfield 71, 3) := by decide +kernel
theorem dX8_ofIsland_140 : decode cX8_ofIsland 140 = .ok (.iload_n 1, 1) := by decide +kernel
theorem dX8_ofIsland_141 : decode cX8_ofIsland 141 = .ok (.iaload, 1) := by decide +kernel
theorem dX8_ofIsland_142 : decode cX8_ofIsland 142 = .ok (.goto 19, 3) := by decide +kernel
theorem dX8_ofIsland_145 : decode cX8_ofIsland 145 = .ok (.iload_n 2, 1) := by decide +kernel
theorem dX8_ofIsland_146 : decode cX8_ofIsland 146 = .ok (.iconst 3, 1) := by decide +kernel
theorem dX8_ofIsland_147 : decode cX8_ofIsland 147 = .ok (.if_icmp .ne 12, 3) := by decide +kernel
theorem dX8_ofIsland_150 : decode cX8_ofIsland 150 = .ok (.aload_n 0, 1) := by decide +kernel
theorem dX8_ofIsland_151 : decode cX8_ofIsland 151 = .ok (.getfield 74, 3) := by decide +kernel
theorem dX8_ofIsland_154 : decode cX8_ofIsland 154 = .ok (.iload_n 1, 1) := by decide +kernel
theorem dX8_ofIsland_155 : decode cX8_ofIsland 155 = .ok (.iaload, 1) := by decide +kernel
theorem dX8_ofIsland_156 : decode cX8_ofIsland 156 = .ok (.goto 5, 3) := by decide +kernel
theorem dX8_ofIsland_159 : decode cX8_ofIsland 159 = .ok (.iload 4, 2) := by decide +kernel
theorem dX8_ofIsland_161 : decode cX8_ofIsland 161 = .ok (.ireturn, 1) := by decide +kernel
theorem dX8_size_0 : decode cX8_size 0 = .ok (.iload_n 0, 1) := by decide +kernel
theorem dX8_size_1 : decode cX8_size 1 = .ok (.ifCond .ge 8, 3) := by decide +kernel
theorem dX8_size_4 : decode cX8_size 4 = .ok (.iload_n 0, 1) := by decide +kernel
theorem dX8_size_5 : decode cX8_size 5 = .ok (.ineg, 1) := by decide +kernel
theorem dX8_size_6 : decode cX8_size 6 = .ok (.goto 4, 3) := by decide +kernel
theorem dX8_size_9 : decode cX8_size 9 = .ok (.iload_n 0, 1) := by decide +kernel
theorem dX8_size_10 : decode cX8_size 10 = .ok (.ireturn, 1) := by decide +kernel
theorem dX8_shifts_0 : decode cX8_shifts 0 = .ok (.iconst 0, 1) := by decide +kernel
theorem dX8_shifts_1 : decode cX8_shifts 1 = .ok (.istore_n 3, 1) := by decide +kernel
theorem dX8_shifts_2 : decode cX8_shifts 2 = .ok (.aload_n 0, 1) := by decide +kernel
theorem dX8_shifts_3 : decode cX8_shifts 3 = .ok (.iconst 0, 1) := by decide +kernel
theorem dX8_shifts_4 : decode cX8_shifts 4 = .ok (.putfield 162, 3) := by decide +kernel
theorem dX8_shifts_7 : decode cX8_shifts 7 = .ok (.aload_n 0, 1) := by decide +kernel
theorem dX8_shifts_8 : decode cX8_shifts 8 = .ok (.iconst 0, 1) := by decide +kernel
theorem dX8_shifts_9 : decode cX8_shifts 9 = .ok (.putfield 165, 3) := by decide +kernel
theorem dX8_shifts_12 : decode cX8_shifts 12 = .ok (.bipush 8, 2) := by decide +kernel
theorem dX8_shifts_14 : decode cX8_shifts 14 = .ok (.iload_n 2, 1) := by decide +kernel
theorem dX8_shifts_15 : decode cX8_shifts 15 = .ok (.imul, 1) := by decide +kernel
theorem dX8_shifts_16 : decode cX8_shifts 16 = .ok (.istore 4, 2) := by decide +kernel
theorem dX8_shifts_18 : decode cX8_shifts 18 = .ok (.iload 4, 2) := by decide +kernel
theorem dX8_shifts_20 : decode cX8_shifts 20 = .ok (.bipush 8, 2) := by decide +kernel
theorem dX8_shifts_22 : decode cX8_shifts 22 = .ok (.iload_n 2, 1) := by decide +kernel
theorem dX8_shifts_23 : decode cX8_shifts 23 = .ok (.imul, 1) := by decide +kernel
theorem dX8_shifts_24 : decode cX8_shifts 24 = .ok (.bipush 8, 2) := by decide +kernel
theorem dX8_shifts_26 : decode cX8_shifts 26 = .ok (.iadd, 1) := by decide +kernel
theorem dX8_shifts_27 : decode cX8_shifts 27 = .ok (.if_icmp .ge 79, 3) := by decide +kernel
theorem dX8_shifts_30 : decode cX8_shifts 30 = .ok (.bipush 24, 2) := by decide +kernel
theorem dX8_shifts_32 : decode cX8_shifts 32 = .ok (.iload_n 1, 1) := by decide +kernel
theorem dX8_shifts_33 : decode cX8_shifts 33 = .ok (.imul, 1) := by decide +kernel
theorem dX8_shifts_34 : decode cX8_shifts 34 = .ok (.iload 4, 2) := by decide +kernel
theorem dX8_shifts_36 : decode cX8_shifts 36 = .ok (.iadd, 1) := by decide +kernel
theorem dX8_shifts_37 : decode cX8_shifts 37 = .ok (.istore 5, 2) := by decide +kernel
theorem dX8_shifts_39 : decode cX8_shifts 39 = .ok (.aload_n 0, 1) := by decide +kernel
theorem dX8_shifts_40 : decode cX8_shifts 40 = .ok (.getfield 46, 3) := by decide +kernel
theorem dX8_shifts_43 : decode cX8_shifts 43 = .ok (.iload 5, 2) := by decide +kernel
theorem dX8_shifts_45 : decode cX8_shifts 45 = .ok (.baload, 1) := by decide +kernel
theorem dX8_shifts_46 : decode cX8_shifts 46 = .ok (.ifCond .eq 54, 3) := by decide +kernel
theorem dX8_shifts_49 : decode cX8_shifts 49 = .ok (.aload_n 0, 1) := by decide +kernel
theorem dX8_shifts_50 : decode cX8_shifts 50 = .ok (.dup, 1) := by decide +kernel
theorem dX8_shifts_51 : decode cX8_shifts 51 = .ok (.getfield 162, 3) := by decide +kernel
theorem dX8_shifts_54 : decode cX8_shifts 54 = .ok (.aload_n 0, 1) := by decide +kernel
theorem dX8_shifts_55 : decode cX8_shifts 55 = .ok (.getfield 50, 3) := by decide +kernel
theorem dX8_shifts_58 : decode cX8_shifts 58 = .ok (.iload 5, 2) := by decide +kernel
theorem dX8_shifts_60 : decode cX8_shifts 60 = .ok (.iaload, 1) := by decide +kernel
theorem dX8_shifts_61 : decode cX8_shifts 61 = .ok (.aload_n 0, 1) := by decide +kernel
theorem dX8_shifts_62 : decode cX8_shifts 62 = .ok (.getfield 7, 3) := by decide +kernel
theorem dX8_shifts_65 : decode cX8_shifts 65 = .ok (.iload 4, 2) := by decide +kernel
theorem dX8_shifts_67 : decode cX8_shifts 67 = .ok (.iaload, 1) := by decide +kernel
theorem dX8_shifts_68 : decode cX8_shifts 68 = .ok (.isub, 1) := by decide +kernel
theorem dX8_shifts_69 : decode cX8_shifts 69 = .ok (.iadd, 1) := by decide +kernel
theorem dX8_shifts_70 : decode cX8_shifts 70 = .ok (.putfield 162, 3) := by decide +kernel
theorem dX8_shifts_73 : decode cX8_shifts 73 = .ok (.aload_n 0, 1) := by decide +kernel
theorem dX8_shifts_74 : decode cX8_shifts 74 = .ok (.dup, 1) := by decide +kernel
theorem dX8_shifts_75 : decode cX8_shifts 75 = .ok (.getfield 165, 3) := by decide +kernel
theorem dX8_shifts_78 : decode cX8_shifts 78 = .ok (.aload_n 0, 1) := by decide +kernel
theorem dX8_shifts_79 : decode cX8_shifts 79 = .ok (.getfield 53, 3) := by decide +kernel
theorem dX8_shifts_82 : decode cX8_shifts 82 = .ok (.iload 5, 2) := by decide +kernel
theorem dX8_shifts_84 : decode cX8_shifts 84 = .ok (.iaload, 1) := by decide +kernel
theorem dX8_shifts_85 : decode cX8_shifts 85 = .ok (.aload_n 0, 1) := by decide +kernel
theorem dX8_shifts_86 : decode cX8_shifts 86 = .ok (.getfield 13, 3) := by decide +kernel
theorem dX8_shifts_89 : decode cX8_shifts 89 = .ok (.iload 4, 2) := by decide +kernel
theorem dX8_shifts_91 : decode cX8_shifts 91 = .ok (.iaload, 1) := by decide +kernel
theorem dX8_shifts_92 : decode cX8_shifts 92 = .ok (.isub, 1) := by decide +kernel
theorem dX8_shifts_93 : decode cX8_shifts 93 = .ok (.iadd, 1) := by decide +kernel
theorem dX8_shifts_94 : decode cX8_shifts 94 = .ok (.putfield 165, 3) := by decide +kernel
theorem dX8_shifts_97 : decode cX8_shifts 97 = .ok (.iinc 3 1, 3) := by decide +kernel
theorem dX8_shifts_100 : decode cX8_shifts 100 = .ok (.iinc 4 1, 3) := by decide +kernel
theorem dX8_shifts_103 : decode cX8_shifts 103 = .ok (.goto (-85), 3) := by decide +kernel
theorem dX8_shifts_106 : decode cX8_shifts 106 = .ok (.aload_n 0, 1) := by decide +kernel
theorem dX8_shifts_107 : decode cX8_shifts 107 = .ok (.iload_n 3, 1) := by decide +kernel
theorem dX8_shifts_108 : decode cX8_shifts 108 = .ok (.ifCond .ne 7, 3) := by decide +kernel
theorem dX8_shifts_111 : decode cX8_shifts 111 = .ok (.iconst 0, 1) := by decide +kernel
theorem dX8_shifts_112 : decode cX8_shifts 112 = .ok (.goto 9, 3) := by decide +kernel
theorem dX8_shifts_115 : decode cX8_shifts 115 = .ok (.aload_n 0, 1) := by decide +kernel
theorem dX8_shifts_116 : decode cX8_shifts 116 = .ok (.getfield 162, 3) := by decide +kernel
theorem dX8_shifts_119 : decode cX8_shifts 119 = .ok (.iload_n 3, 1) := by decide +kernel
theorem dX8_shifts_120 : decode cX8_shifts 120 = .ok (.idiv, 1) := by decide +kernel
theorem dX8_shifts_121 : decode cX8_shifts 121 = .ok (.putfield 162, 3) := by decide +kernel
theorem dX8_shifts_124 : decode cX8_shifts 124 = .ok (.aload_n 0, 1) := by decide +kernel
theorem dX8_shifts_125 : decode cX8_shifts 125 = .ok (.iload_n 3, 1) := by decide +kernel
theorem dX8_shifts_126 : decode cX8_shifts 126 = .ok (.ifCond .ne 7, 3) := by decide +kernel
theorem dX8_shifts_129 : decode cX8_shifts 129 = .ok (.iconst 0, 1) := by decide +kernel
theorem dX8_shifts_130 : decode cX8_shifts 130 = .ok (.goto 9, 3) := by decide +kernel
theorem dX8_shifts_133 : decode cX8_shifts 133 = .ok (.aload_n 0, 1) := by decide +kernel
theorem dX8_shifts_134 : decode cX8_shifts 134 = .ok (.getfield 165, 3) := by decide +kernel
theorem dX8_shifts_137 : decode cX8_shifts 137 = .ok (.iload_n 3, 1) := by decide +kernel
theorem dX8_shifts_138 : decode cX8_shifts 138 = .ok (.idiv, 1) := by decide +kernel
theorem dX8_shifts_139 : decode cX8_shifts 139 = .ok (.putfield 165, 3) := by decide +kernel
theorem dX8_shifts_142 : decode cX8_shifts 142 = .ok (.return_, 1) := by decide +kernel
theorem dX8_fit_0 : decode cX8_fit 0 = .ok (.aload_n 0, 1) := by decide +kernel
theorem dX8_fit_1 : decode cX8_fit 1 = .ok (.aload_n 0, 1) := by decide +kernel
theorem dX8_fit_2 : decode cX8_fit 2 = .ok (.iload_n 1, 1) := by decide +kernel
theorem dX8_fit_3 : decode cX8_fit 3 = .ok (.invokevirtual 136, 3) := by decide +kernel
theorem dX8_fit_6 : decode cX8_fit 6 = .ok (.ifCond .eq 10, 3) := by decide +kernel
theorem dX8_fit_9 : decode cX8_fit 9 = .ok (.iload_n 2, 1) := by decide +kernel
theorem dX8_fit_10 : decode cX8_fit 10 = .ok (.invokestatic 152, 3) := by decide +kernel
theorem dX8_fit_13 : decode cX8_fit 13 = .ok (.ifCond .ne 7, 3) := by decide +kernel
theorem dX8_fit_16 : decode cX8_fit 16 = .ok (.iconst 1, 1) := by decide +kernel
theorem dX8_fit_17 : decode cX8_fit 17 = .ok (.goto 17, 3) := by decide +kernel
theorem dX8_fit_20 : decode cX8_fit 20 = .ok (.iload_n 3, 1) := by decide +kernel
theorem dX8_fit_21 : decode cX8_fit 21 = .ok (.iconst 0, 1) := by decide +kernel
theorem dX8_fit_22 : decode cX8_fit 22 = .ok (.iconst 2, 1) := by decide +kernel
theorem dX8_fit_23 : decode cX8_fit 23 = .ok (.invokestatic 96, 3) := by decide +kernel
theorem dX8_fit_26 : decode cX8_fit 26 = .ok (.ifCond .ne 7, 3) := by decide +kernel
theorem dX8_fit_29 : decode cX8_fit 29 = .ok (.iconst 2, 1) := by decide +kernel
theorem dX8_fit_30 : decode cX8_fit 30 = .ok (.goto 4, 3) := by decide +kernel
theorem dX8_fit_33 : decode cX8_fit 33 = .ok (.iconst 0, 1) := by decide +kernel
theorem dX8_fit_34 : decode cX8_fit 34 = .ok (.putfield 92, 3) := by decide +kernel
theorem dX8_fit_37 : decode cX8_fit 37 = .ok (.aload_n 0, 1) := by decide +kernel
theorem dX8_fit_38 : decode cX8_fit 38 = .ok (.getfield 92, 3) := by decide +kernel
theorem dX8_fit_41 : decode cX8_fit 41 = .ok (.ifCond .le 5, 3) := by decide +kernel
theorem dX8_fit_44 : decode cX8_fit 44 = .ok (.iconst 0, 1) := by decide +kernel
theorem dX8_fit_45 : decode cX8_fit 45 = .ok (.ireturn, 1) := by decide +kernel
theorem dX8_fit_46 : decode cX8_fit 46 = .ok (.aload_n 0, 1) := by decide +kernel
theorem dX8_fit_47 : decode cX8_fit 47 = .ok (.iload_n 1, 1) := by decide +kernel
theorem dX8_fit_48 : decode cX8_fit 48 = .ok (.iload_n 2, 1) := by decide +kernel
theorem dX8_fit_49 : decode cX8_fit 49 = .ok (.invokevirtual 168, 3) := by decide +kernel
theorem dX8_fit_52 : decode cX8_fit 52 = .ok (.iconst 0, 1) := by decide +kernel
theorem dX8_fit_53 : decode cX8_fit 53 = .ok (.istore 4, 2) := by decide +kernel
theorem dX8_fit_55 : decode cX8_fit 55 = .ok (.bipush 8, 2) := by decide +kernel
theorem dX8_fit_57 : decode cX8_fit 57 = .ok (.iload_n 2, 1) := by decide +kernel
theorem dX8_fit_58 : decode cX8_fit 58 = .ok (.imul, 1) := by decide +kernel
theorem dX8_fit_59 : decode cX8_fit 59 = .ok (.istore 5, 2) := by decide +kernel
theorem dX8_fit_61 : decode cX8_fit 61 = .ok (.iload 5, 2) := by decide +kernel
theorem dX8_fit_63 : decode cX8_fit 63 = .ok (.bipush 8, 2) := by decide +kernel
theorem dX8_fit_65 : decode cX8_fit 65 = .ok (.iload_n 2, 1) := by decide +kernel
theorem dX8_fit_66 : decode cX8_fit 66 = .ok (.imul, 1) := by decide +kernel
theorem dX8_fit_67 : decode cX8_fit 67 = .ok (.bipush 8, 2) := by decide +kernel
theorem dX8_fit_69 : decode cX8_fit 69 = .ok (.iadd, 1) := by decide +kernel
theorem dX8_fit_70 : decode cX8_fit 70 = .ok (.if_icmp .ge 84, 3) := by decide +kernel
theorem dX8_fit_73 : decode cX8_fit 73 = .ok (.bipush 24, 2) := by decide +kernel
theorem dX8_fit_75 : decode cX8_fit 75 = .ok (.iload_n 1, 1) := by decide +kernel
theorem dX8_fit_76 : decode cX8_fit 76 = .ok (.imul, 1) := by decide +kernel
theorem dX8_fit_77 : decode cX8_fit 77 = .ok (.iload 5, 2) := by decide +kernel
theorem dX8_fit_79 : decode cX8_fit 79 = .ok (.iadd, 1) := by decide +kernel
theorem dX8_fit_80 : decode cX8_fit 80 = .ok (.istore 6, 2) := by decide +kernel
theorem dX8_fit_82 : decode cX8_fit 82 = .ok (.iload 4, 2) := by decide +kernel
theorem dX8_fit_84 : decode cX8_fit 84 = .ok (.aload_n 0, 1) := by decide +kernel
theorem dX8_fit_85 : decode cX8_fit 85 = .ok (.getfield 46, 3) := by decide +kernel
theorem dX8_fit_88 : decode cX8_fit 88 = .ok (.iload 6, 2) := by decide +kernel
theorem dX8_fit_90 : decode cX8_fit 90 = .ok (.baload, 1) := by decide +kernel
theorem dX8_fit_91 : decode cX8_fit 91 = .ok (.ifCond .eq 53, 3) := by decide +kernel
theorem dX8_fit_94 : decode cX8_fit 94 = .ok (.aload_n 0, 1) := by decide +kernel
theorem dX8_fit_95 : decode cX8_fit 95 = .ok (.getfield 50, 3) := by decide +kernel
theorem dX8_fit_98 : decode cX8_fit 98 = .ok (.iload 6, 2) := by decide +kernel
theorem dX8_fit_100 : decode cX8_fit 100 = .ok (.iaload, 1) := by decide +kernel
theorem dX8_fit_101 : decode cX8_fit 101 = .ok (.aload_n 0, 1) := by decide +kernel
theorem dX8_fit_102 : decode cX8_fit 102 = .ok (.getfield 7, 3) := by decide +kernel
theorem dX8_fit_105 : decode cX8_fit 105 = .ok (.iload 5, 2) := by decide +kernel
theorem dX8_fit_107 : decode cX8_fit 107 = .ok (.iaload, 1) := by decide +kernel
theorem dX8_fit_108 : decode cX8_fit 108 = .ok (.isub, 1) := by decide +kernel
theorem dX8_fit_109 : decode cX8_fit 109 = .ok (.aload_n 0, 1) := by decide +kernel
theorem dX8_fit_110 : decode cX8_fit 110 = .ok (.getfield 162, 3) := by decide +kernel
theorem dX8_fit_113 : decode cX8_fit 113 = .ok (.isub, 1) := by decide +kernel
theorem dX8_fit_114 : decode cX8_fit 114 = .ok (.invokestatic 172, 3) := by decide +kernel
theorem dX8_fit_117 : decode cX8_fit 117 = .ok (.aload_n 0, 1) := by decide +kernel
theorem dX8_fit_118 : decode cX8_fit 118 = .ok (.getfield 53, 3) := by decide +kernel
theorem dX8_fit_121 : decode cX8_fit 121 = .ok (.iload 6, 2) := by decide +kernel
theorem dX8_fit_123 : decode cX8_fit 123 = .ok (.iaload, 1) := by decide +kernel
theorem dX8_fit_124 : decode cX8_fit 124 = .ok (.aload_n 0, 1) := by decide +kernel
theorem dX8_fit_125 : decode cX8_fit 125 = .ok (.getfield 13, 3) := by decide +kernel
theorem dX8_fit_128 : decode cX8_fit 128 = .ok (.iload 5, 2) := by decide +kernel
theorem dX8_fit_130 : decode cX8_fit 130 = .ok (.iaload, 1) := by decide +kernel
theorem dX8_fit_131 : decode cX8_fit 131 = .ok (.isub, 1) := by decide +kernel
theorem dX8_fit_132 : decode cX8_fit 132 = .ok (.aload_n 0, 1) := by decide +kernel
theorem dX8_fit_133 : decode cX8_fit 133 = .ok (.getfield 165, 3) := by decide +kernel
theorem dX8_fit_136 : decode cX8_fit 136 = .ok (.isub, 1) := by decide +kernel
theorem dX8_fit_137 : decode cX8_fit 137 = .ok (.invokestatic 172, 3) := by decide +kernel
theorem dX8_fit_140 : decode cX8_fit 140 = .ok (.iadd, 1) := by decide +kernel
theorem dX8_fit_141 : decode cX8_fit 141 = .ok (.goto 4, 3) := by decide +kernel
theorem dX8_fit_144 : decode cX8_fit 144 = .ok (.iconst 0, 1) := by decide +kernel
theorem dX8_fit_145 : decode cX8_fit 145 = .ok (.iadd, 1) := by decide +kernel
theorem dX8_fit_146 : decode cX8_fit 146 = .ok (.istore 4, 2) := by decide +kernel
theorem dX8_fit_148 : decode cX8_fit 148 = .ok (.iinc 5 1, 3) := by decide +kernel
theorem dX8_fit_151 : decode cX8_fit 151 = .ok (.goto (-90), 3) := by decide +kernel
theorem dX8_fit_154 : decode cX8_fit 154 = .ok (.iload_n 3, 1) := by decide +kernel
theorem dX8_fit_155 : decode cX8_fit 155 = .ok (.ifCond .ne 10, 3) := by decide +kernel
theorem dX8_fit_158 : decode cX8_fit 158 = .ok (.aload_n 0, 1) := by decide +kernel
theorem dX8_fit_159 : decode cX8_fit 159 = .ok (.getfield 162, 3) := by decide +kernel
theorem dX8_fit_162 : decode cX8_fit 162 = .ok (.goto 17, 3) := by decide +kernel
theorem dX8_fit_165 : decode cX8_fit 165 = .ok (.iload_n 3, 1) := by decide +kernel
theorem dX8_fit_166 : decode cX8_fit 166 = .ok (.iconst 1, 1) := by decide +kernel
theorem dX8_fit_167 : decode cX8_fit 167 = .ok (.if_icmp .ne 10, 3) := by decide +kernel
theorem dX8_fit_170 : decode cX8_fit 170 = .ok (.aload_n 0, 1) := by decide +kernel
theorem dX8_fit_171 : decode cX8_fit 171 = .ok (.getfield 165, 3) := by decide +kernel
theorem dX8_fit_174 : decode cX8_fit 174 = .ok (.goto 5, 3) := by decide +kernel
theorem dX8_fit_177 : decode cX8_fit 177 = .ok (.iload 4, 2) := by decide +kernel
theorem dX8_fit_179 : decode cX8_fit 179 = .ok (.ireturn, 1) := by decide +kernel
theorem dX8_sharedBy_0 : decode cX8_sharedBy 0 = .ok (.iconst 0, 1) := by decide +kernel
theorem dX8_sharedBy_1 : decode cX8_sharedBy 1 = .ok (.istore 4, 2) := by decide +kernel
theorem dX8_sharedBy_3 : decode cX8_sharedBy 3 = .ok (.bipush 8, 2) := by decide +kernel
theorem dX8_sharedBy_5 : decode cX8_sharedBy 5 = .ok (.iload_n 3, 1) := by decide +kernel
theorem dX8_sharedBy_6 : decode cX8_sharedBy 6 = .ok (.imul, 1) := by decide +kernel
theorem dX8_sharedBy_7 : decode cX8_sharedBy 7 = .ok (.istore 5, 2) := by decide +kernel
theorem dX8_sharedBy_9 : decode cX8_sharedBy 9 = .ok (.iload 5, 2) := by decide +kernel
theorem dX8_sharedBy_11 : decode cX8_sharedBy 11 = .ok (.bipush 8, 2) := by decide +kernel
theorem dX8_sharedBy_13 : decode cX8_sharedBy 13 = .ok (.iload_n 3, 1) := by decide +kernel
theorem dX8_sharedBy_14 : decode cX8_sharedBy 14 = .ok (.imul, 1) := by decide +kernel
theorem dX8_sharedBy_15 : decode cX8_sharedBy 15 = .ok (.bipush 8, 2) := by decide +kernel
theorem dX8_sharedBy_17 : decode cX8_sharedBy 17 = .ok (.iadd, 1) := by decide +kernel
theorem dX8_sharedBy_18 : decode cX8_sharedBy 18 = .ok (.if_icmp .ge 181, 3) := by decide +kernel
theorem dX8_sharedBy_21 : decode cX8_sharedBy 21 = .ok (.bipush 24, 2) := by decide +kernel
theorem dX8_sharedBy_23 : decode cX8_sharedBy 23 = .ok (.iload_n 1, 1) := by decide +kernel
theorem dX8_sharedBy_24 : decode cX8_sharedBy 24 = .ok (.imul, 1) := by decide +kernel
theorem dX8_sharedBy_25 : decode cX8_sharedBy 25 = .ok (.iload 5, 2) := by decide +kernel
theorem dX8_sharedBy_27 : decode cX8_sharedBy 27 = .ok (.iadd, 1) := by decide +kernel
theorem dX8_sharedBy_28 : decode cX8_sharedBy 28 = .ok (.istore 6, 2) := by decide +kernel
theorem dX8_sharedBy_30 : decode cX8_sharedBy 30 = .ok (.bipush 24, 2) := by decide +kernel
theorem dX8_sharedBy_32 : decode cX8_sharedBy 32 = .ok (.iload_n 2, 1) := by decide +kernel
theorem dX8_sharedBy_33 : decode cX8_sharedBy 33 = .ok (.imul, 1) := by decide +kernel
theorem dX8_sharedBy_34 : decode cX8_sharedBy 34 = .ok (.iload 5, 2) := by decide +kernel
theorem dX8_sharedBy_36 : decode cX8_sharedBy 36 = .ok (.iadd, 1) := by decide +kernel
theorem dX8_sharedBy_37 : decode cX8_sharedBy 37 = .ok (.istore 7, 2) := by decide +kernel
theorem dX8_sharedBy_39 : decode cX8_sharedBy 39 = .ok (.aload_n 0, 1) := by decide +kernel
theorem dX8_sharedBy_40 : decode cX8_sharedBy 40 = .ok (.getfield 46, 3) := by decide +kernel
theorem dX8_sharedBy_43 : decode cX8_sharedBy 43 = .ok (.iload 6, 2) := by decide +kernel
theorem dX8_sharedBy_45 : decode cX8_sharedBy 45 = .ok (.baload, 1) := by decide +kernel
theorem dX8_sharedBy_46 : decode cX8_sharedBy 46 = .ok (.ifCond .eq 51, 3) := by decide +kernel
theorem dX8_sharedBy_49 : decode cX8_sharedBy 49 = .ok (.aload_n 0, 1) := by decide +kernel
theorem dX8_sharedBy_50 : decode cX8_sharedBy 50 = .ok (.getfield 46, 3) := by decide +kernel
theorem dX8_sharedBy_53 : decode cX8_sharedBy 53 = .ok (.iload 7, 2) := by decide +kernel
theorem dX8_sharedBy_55 : decode cX8_sharedBy 55 = .ok (.baload, 1) := by decide +kernel
theorem dX8_sharedBy_56 : decode cX8_sharedBy 56 = .ok (.ifCond .eq 41, 3) := by decide +kernel
theorem dX8_sharedBy_59 : decode cX8_sharedBy 59 = .ok (.aload_n 0, 1) := by decide +kernel
theorem dX8_sharedBy_60 : decode cX8_sharedBy 60 = .ok (.getfield 50, 3) := by decide +kernel
theorem dX8_sharedBy_63 : decode cX8_sharedBy 63 = .ok (.iload 6, 2) := by decide +kernel
theorem dX8_sharedBy_65 : decode cX8_sharedBy 65 = .ok (.iaload, 1) := by decide +kernel
theorem dX8_sharedBy_66 : decode cX8_sharedBy 66 = .ok (.aload_n 0, 1) := by decide +kernel
theorem dX8_sharedBy_67 : decode cX8_sharedBy 67 = .ok (.getfield 50, 3) := by decide +kernel
theorem dX8_sharedBy_70 : decode cX8_sharedBy 70 = .ok (.iload 7, 2) := by decide +kernel
theorem dX8_sharedBy_72 : decode cX8_sharedBy 72 = .ok (.iaload, 1) := by decide +kernel
theorem dX8_sharedBy_73 : decode cX8_sharedBy 73 = .ok (.if_icmp .ne 24, 3) := by decide +kernel
theorem dX8_sharedBy_76 : decode cX8_sharedBy 76 = .ok (.aload_n 0, 1) := by decide +kernel
theorem dX8_sharedBy_77 : decode cX8_sharedBy 77 = .ok (.getfield 53, 3) := by decide +kernel
theorem dX8_sharedBy_80 : decode cX8_sharedBy 80 = .ok (.iload 6, 2) := by decide +kernel
theorem dX8_sharedBy_82 : decode cX8_sharedBy 82 = .ok (.iaload, 1) := by decide +kernel
theorem dX8_sharedBy_83 : decode cX8_sharedBy 83 = .ok (.aload_n 0, 1) := by decide +kernel
theorem dX8_sharedBy_84 : decode cX8_sharedBy 84 = .ok (.getfield 53, 3) := by decide +kernel
theorem dX8_sharedBy_87 : decode cX8_sharedBy 87 = .ok (.iload 7, 2) := by decide +kernel
theorem dX8_sharedBy_89 : decode cX8_sharedBy 89 = .ok (.iaload, 1) := by decide +kernel
theorem dX8_sharedBy_90 : decode cX8_sharedBy 90 = .ok (.if_icmp .ne 7, 3) := by decide +kernel
theorem dX8_sharedBy_93 : decode cX8_sharedBy 93 = .ok (.iconst 1, 1) := by decide +kernel
theorem dX8_sharedBy_94 : decode cX8_sharedBy 94 = .ok (.goto 4, 3) := by decide +kernel
theorem dX8_sharedBy_97 : decode cX8_sharedBy 97 = .ok (.iconst 0, 1) := by decide +kernel
theorem dX8_sharedBy_98 : decode cX8_sharedBy 98 = .ok (.istore 8, 2) := by decide +kernel
theorem dX8_sharedBy_100 : decode cX8_sharedBy 100 = .ok (.iload 4, 2) := by decide +kernel
theorem dX8_sharedBy_102 : decode cX8_sharedBy 102 = .ok (.iload 8, 2) := by decide +kernel
theorem dX8_sharedBy_104 : decode cX8_sharedBy 104 = .ok (.ifCond .eq 41, 3) := by decide +kernel
theorem dX8_sharedBy_107 : decode cX8_sharedBy 107 = .ok (.aload_n 0, 1) := by decide +kernel
theorem dX8_sharedBy_108 : decode cX8_sharedBy 108 = .ok (.getfield 50, 3) := by decide +kernel
theorem dX8_sharedBy_111 : decode cX8_sharedBy 111 = .ok (.iload 6, 2) := by decide +kernel
theorem dX8_sharedBy_113 : decode cX8_sharedBy 113 = .ok (.iaload, 1) := by decide +kernel
theorem dX8_sharedBy_114 : decode cX8_sharedBy 114 = .ok (.aload_n 0, 1) := by decide +kernel
theorem dX8_sharedBy_115 : decode cX8_sharedBy 115 = .ok (.getfield 7, 3) := by decide +kernel
theorem dX8_sharedBy_118 : decode cX8_sharedBy 118 = .ok (.iload 5, 2) := by decide +kernel
theorem dX8_sharedBy_120 : decode cX8_sharedBy 120 = .ok (.iaload, 1) := by decide +kernel
theorem dX8_sharedBy_121 : decode cX8_sharedBy 121 = .ok (.if_icmp .ne 20, 3) := by decide +kernel
theorem dX8_sharedBy_124 : decode cX8_sharedBy 124 = .ok (.aload_n 0, 1) := by decide +kernel
theorem dX8_sharedBy_125 : decode cX8_sharedBy 125 = .ok (.getfield 53, 3) := by decide +kernel
theorem dX8_sharedBy_128 : decode cX8_sharedBy 128 = .ok (.iload 6, 2) := by decide +kernel
theorem dX8_sharedBy_130 : decode cX8_sharedBy 130 = .ok (.iaload, 1) := by decide +kernel
theorem dX8_sharedBy_131 : decode cX8_sharedBy 131 = .ok (.aload_n 0, 1) := by decide +kernel
theorem dX8_sharedBy_132 : decode cX8_sharedBy 132 = .ok (.getfield 13, 3) := by decide +kernel
theorem dX8_sharedBy_135 : decode cX8_sharedBy 135 = .ok (.iload 5, 2) := by decide +kernel
theorem dX8_sharedBy_137 : decode cX8_sharedBy 137 = .ok (.iaload, 1) := by decide +kernel
theorem dX8_sharedBy_138 : decode cX8_sharedBy 138 = .ok (.if_icmp .eq 7, 3) := by decide +kernel
theorem dX8_sharedBy_141 : decode cX8_sharedBy 141 = .ok (.iconst 1, 1) := by decide +kernel
theorem dX8_sharedBy_142 : decode cX8_sharedBy 142 = .ok (.goto 4, 3) := by decide +kernel
theorem dX8_sharedBy_145 : decode cX8_sharedBy 145 = .ok (.iconst 0, 1) := by decide +kernel
theorem dX8_sharedBy_146 : decode cX8_sharedBy 146 = .ok (.iadd, 1) := by decide +kernel
theorem dX8_sharedBy_147 : decode cX8_sharedBy 147 = .ok (.istore 4, 2) := by decide +kernel
theorem dX8_sharedBy_149 : decode cX8_sharedBy 149 = .ok (.iload 4, 2) := by decide +kernel
theorem dX8_sharedBy_151 : decode cX8_sharedBy 151 = .ok (.aload_n 0, 1) := by decide +kernel
theorem dX8_sharedBy_152 : decode cX8_sharedBy 152 = .ok (.getfield 56, 3) := by decide +kernel
theorem dX8_sharedBy_155 : decode cX8_sharedBy 155 = .ok (.iload 6, 2) := by decide +kernel
theorem dX8_sharedBy_157 : decode cX8_sharedBy 157 = .ok (.iaload, 1) := by decide +kernel
theorem dX8_sharedBy_158 : decode cX8_sharedBy 158 = .ok (.aload_n 0, 1) := by decide +kernel
theorem dX8_sharedBy_159 : decode cX8_sharedBy 159 = .ok (.getfield 56, 3) := by decide +kernel
theorem dX8_sharedBy_162 : decode cX8_sharedBy 162 = .ok (.iload 7, 2) := by decide +kernel
theorem dX8_sharedBy_164 : decode cX8_sharedBy 164 = .ok (.iaload, 1) := by decide +kernel
theorem dX8_sharedBy_165 : decode cX8_sharedBy 165 = .ok (.if_icmp .ne 24, 3) := by decide +kernel
theorem dX8_sharedBy_168 : decode cX8_sharedBy 168 = .ok (.aload_n 0, 1) := by decide +kernel
theorem dX8_sharedBy_169 : decode cX8_sharedBy 169 = .ok (.getfield 56, 3) := by decide +kernel
theorem dX8_sharedBy_172 : decode cX8_sharedBy 172 = .ok (.iload 6, 2) := by decide +kernel
theorem dX8_sharedBy_174 : decode cX8_sharedBy 174 = .ok (.iaload, 1) := by decide +kernel
theorem dX8_sharedBy_175 : decode cX8_sharedBy 175 = .ok (.aload_n 0, 1) := by decide +kernel
theorem dX8_sharedBy_176 : decode cX8_sharedBy 176 = .ok (.getfield 16, 3) := by decide +kernel
theorem dX8_sharedBy_179 : decode cX8_sharedBy 179 = .ok (.iload 5, 2) := by decide +kernel
theorem dX8_sharedBy_181 : decode cX8_sharedBy 181 = .ok (.iaload, 1) := by decide +kernel
theorem dX8_sharedBy_182 : decode cX8_sharedBy 182 = .ok (.if_icmp .eq 7, 3) := by decide +kernel
theorem dX8_sharedBy_185 : decode cX8_sharedBy 185 = .ok (.iconst 1, 1) := by decide +kernel
theorem dX8_sharedBy_186 : decode cX8_sharedBy 186 = .ok (.goto 4, 3) := by decide +kernel
theorem dX8_sharedBy_189 : decode cX8_sharedBy 189 = .ok (.iconst 0, 1) := by decide +kernel
theorem dX8_sharedBy_190 : decode cX8_sharedBy 190 = .ok (.iadd, 1) := by decide +kernel
theorem dX8_sharedBy_191 : decode cX8_sharedBy 191 = .ok (.istore 4, 2) := by decide +kernel
theorem dX8_sharedBy_193 : decode cX8_sharedBy 193 = .ok (.iinc 5 1, 3) := by decide +kernel
theorem dX8_sharedBy_196 : decode cX8_sharedBy 196 = .ok (.goto (-187), 3) := by decide +kernel
theorem dX8_sharedBy_199 : decode cX8_sharedBy 199 = .ok (.iconst 0, 1) := by decide +kernel
theorem dX8_sharedBy_200 : decode cX8_sharedBy 200 = .ok (.istore 5, 2) := by decide +kernel
theorem dX8_sharedBy_202 : decode cX8_sharedBy 202 = .ok (.iload 5, 2) := by decide +kernel
theorem dX8_sharedBy_204 : decode cX8_sharedBy 204 = .ok (.aload_n 0, 1) := by decide +kernel
theorem dX8_sharedBy_205 : decode cX8_sharedBy 205 = .ok (.getfield 103, 3) := by decide +kernel
theorem dX8_sharedBy_208 : decode cX8_sharedBy 208 = .ok (.if_icmp .ge 49, 3) := by decide +kernel
theorem dX8_sharedBy_211 : decode cX8_sharedBy 211 = .ok (.iload 4, 2) := by decide +kernel
theorem dX8_sharedBy_213 : decode cX8_sharedBy 213 = .ok (.aload_n 0, 1) := by decide +kernel
theorem dX8_sharedBy_214 : decode cX8_sharedBy 214 = .ok (.getfield 77, 3) := by decide +kernel
theorem dX8_sharedBy_217 : decode cX8_sharedBy 217 = .ok (.bipush 20, 2) := by decide +kernel
theorem dX8_sharedBy_219 : decode cX8_sharedBy 219 = .ok (.iload_n 1, 1) := by decide +kernel
theorem dX8_sharedBy_220 : decode cX8_sharedBy 220 = .ok (.imul, 1) := by decide +kernel
theorem dX8_sharedBy_221 : decode cX8_sharedBy 221 = .ok (.iload 5, 2) := by decide +kernel
theorem dX8_sharedBy_223 : decode cX8_sharedBy 223 = .ok (.iadd, 1) := by decide +kernel
theorem dX8_sharedBy_224 : decode cX8_sharedBy 224 = .ok (.baload, 1) := by decide +kernel
theorem dX8_sharedBy_225 : decode cX8_sharedBy 225 = .ok (.ifCond .eq 22, 3) := by decide +kernel
theorem dX8_sharedBy_228 : decode cX8_sharedBy 228 = .ok (.aload_n 0, 1) := by decide +kernel
theorem dX8_sharedBy_229 : decode cX8_sharedBy 229 = .ok (.getfield 77, 3) := by decide +kernel
theorem dX8_sharedBy_232 : decode cX8_sharedBy 232 = .ok (.bipush 20, 2) := by decide +kernel
theorem dX8_sharedBy_234 : decode cX8_sharedBy 234 = .ok (.iload_n 2, 1) := by decide +kernel
theorem dX8_sharedBy_235 : decode cX8_sharedBy 235 = .ok (.imul, 1) := by decide +kernel
theorem dX8_sharedBy_236 : decode cX8_sharedBy 236 = .ok (.iload 5, 2) := by decide +kernel
theorem dX8_sharedBy_238 : decode cX8_sharedBy 238 = .ok (.iadd, 1) := by decide +kernel
theorem dX8_sharedBy_239 : decode cX8_sharedBy 239 = .ok (.baload, 1) := by decide +kernel
theorem dX8_sharedBy_240 : decode cX8_sharedBy 240 = .ok (.ifCond .eq 7, 3) := by decide +kernel
theorem dX8_sharedBy_243 : decode cX8_sharedBy 243 = .ok (.iconst 1, 1) := by decide +kernel
theorem dX8_sharedBy_244 : decode cX8_sharedBy 244 = .ok (.goto 4, 3) := by decide +kernel
theorem dX8_sharedBy_247 : decode cX8_sharedBy 247 = .ok (.iconst 0, 1) := by decide +kernel
theorem dX8_sharedBy_248 : decode cX8_sharedBy 248 = .ok (.iadd, 1) := by decide +kernel
theorem dX8_sharedBy_249 : decode cX8_sharedBy 249 = .ok (.istore 4, 2) := by decide +kernel
theorem dX8_sharedBy_251 : decode cX8_sharedBy 251 = .ok (.iinc 5 1, 3) := by decide +kernel
theorem dX8_sharedBy_254 : decode cX8_sharedBy 254 = .ok (.goto (-52), 3) := by decide +kernel
theorem dX8_sharedBy_257 : decode cX8_sharedBy 257 = .ok (.iload 4, 2) := by decide +kernel
theorem dX8_sharedBy_259 : decode cX8_sharedBy 259 = .ok (.ireturn, 1) := by decide +kernel
theorem dX8_shared_0 : decode cX8_shared 0 = .ok (.aload_n 0, 1) := by decide +kernel
theorem dX8_shared_1 : decode cX8_shared 1 = .ok (.aload_n 0, 1) := by decide +kernel
theorem dX8_shared_2 : decode cX8_shared 2 = .ok (.iload_n 1, 1) := by decide +kernel
theorem dX8_shared_3 : decode cX8_shared 3 = .ok (.invokevirtual 136, 3) := by decide +kernel
theorem dX8_shared_6 : decode cX8_shared 6 = .ok (.ifCond .eq 22, 3) := by decide +kernel
theorem dX8_shared_9 : decode cX8_shared 9 = .ok (.aload_n 0, 1) := by decide +kernel
theorem dX8_shared_10 : decode cX8_shared 10 = .ok (.iload_n 2, 1) := by decide +kernel
theorem dX8_shared_11 : decode cX8_shared 11 = .ok (.invokevirtual 136, 3) := by decide +kernel
theorem dX8_shared_14 : decode cX8_shared 14 = .ok (.ifCond .eq 14, 3) := by decide +kernel
theorem dX8_shared_17 : decode cX8_shared 17 = .ok (.iload_n 3, 1) := by decide +kernel
theorem dX8_shared_18 : decode cX8_shared 18 = .ok (.invokestatic 152, 3) := by decide +kernel
theorem dX8_shared_21 : decode cX8_shared 21 = .ok (.ifCond .eq 7, 3) := by decide +kernel
theorem dX8_shared_24 : decode cX8_shared 24 = .ok (.iconst 0, 1) := by decide +kernel
theorem dX8_shared_25 : decode cX8_shared 25 = .ok (.goto 4, 3) := by decide +kernel
theorem dX8_shared_28 : decode cX8_shared 28 = .ok (.iconst 1, 1) := by decide +kernel
theorem dX8_shared_29 : decode cX8_shared 29 = .ok (.putfield 92, 3) := by decide +kernel
theorem dX8_shared_32 : decode cX8_shared 32 = .ok (.aload_n 0, 1) := by decide +kernel
theorem dX8_shared_33 : decode cX8_shared 33 = .ok (.getfield 92, 3) := by decide +kernel
theorem dX8_shared_36 : decode cX8_shared 36 = .ok (.ifCond .le 7, 3) := by decide +kernel
theorem dX8_shared_39 : decode cX8_shared 39 = .ok (.iconst 0, 1) := by decide +kernel
theorem dX8_shared_40 : decode cX8_shared 40 = .ok (.goto 10, 3) := by decide +kernel
theorem dX8_shared_43 : decode cX8_shared 43 = .ok (.aload_n 0, 1) := by decide +kernel
theorem dX8_shared_44 : decode cX8_shared 44 = .ok (.iload_n 1, 1) := by decide +kernel
theorem dX8_shared_45 : decode cX8_shared 45 = .ok (.iload_n 2, 1) := by decide +kernel
theorem dX8_shared_46 : decode cX8_shared 46 = .ok (.iload_n 3, 1) := by decide +kernel
theorem dX8_shared_47 : decode cX8_shared 47 = .ok (.invokevirtual 176, 3) := by decide +kernel
theorem dX8_shared_50 : decode cX8_shared 50 = .ok (.ireturn, 1) := by decide +kernel
theorem dX8_kin_0 : decode cX8_kin 0 = .ok (.aload_n 0, 1) := by decide +kernel
theorem dX8_kin_1 : decode cX8_kin 1 = .ok (.aload_n 0, 1) := by decide +kernel
theorem dX8_kin_2 : decode cX8_kin 2 = .ok (.iload_n 1, 1) := by decide +kernel
theorem dX8_kin_3 : decode cX8_kin 3 = .ok (.invokevirtual 136, 3) := by decide +kernel
theorem dX8_kin_6 : decode cX8_kin 6 = .ok (.ifCond .eq 14, 3) := by decide +kernel
theorem dX8_kin_9 : decode cX8_kin 9 = .ok (.iload_n 2, 1) := by decide +kernel
theorem dX8_kin_10 : decode cX8_kin 10 = .ok (.invokestatic 152, 3) := by decide +kernel
theorem dX8_kin_13 : decode cX8_kin 13 = .ok (.ifCond .eq 7, 3) := by decide +kernel
theorem dX8_kin_16 : decode cX8_kin 16 = .ok (.iconst 0, 1) := by decide +kernel
theorem dX8_kin_17 : decode cX8_kin 17 = .ok (.goto 4, 3) := by decide +kernel
theorem dX8_kin_20 : decode cX8_kin 20 = .ok (.iconst 1, 1) := by decide +kernel
theorem dX8_kin_21 : decode cX8_kin 21 = .ok (.putfield 92, 3) := by decide +kernel
theorem dX8_kin_24 : decode cX8_kin 24 = .ok (.iconst (-1), 1) := by decide +kernel
theorem dX8_kin_25 : decode cX8_kin 25 = .ok (.istore_n 3, 1) := by decide +kernel
theorem dX8_kin_26 : decode cX8_kin 26 = .ok (.iconst 0, 1) := by decide +kernel
theorem dX8_kin_27 : decode cX8_kin 27 = .ok (.istore 4, 2) := by decide +kernel
theorem dX8_kin_29 : decode cX8_kin 29 = .ok (.iconst 0, 1) := by decide +kernel
theorem dX8_kin_30 : decode cX8_kin 30 = .ok (.istore 5, 2) := by decide +kernel
theorem dX8_kin_32 : decode cX8_kin 32 = .ok (.iload 5, 2) := by decide +kernel
theorem dX8_kin_34 : decode cX8_kin 34 = .ok (.iload_n 1, 1) := by decide +kernel
theorem dX8_kin_35 : decode cX8_kin 35 = .ok (.if_icmp .ge 56, 3) := by decide +kernel
theorem dX8_kin_38 : decode cX8_kin 38 = .ok (.aload_n 0, 1) := by decide +kernel
theorem dX8_kin_39 : decode cX8_kin 39 = .ok (.getfield 92, 3) := by decide +kernel
theorem dX8_kin_42 : decode cX8_kin 42 = .ok (.ifCond .ne 49, 3) := by decide +kernel
theorem dX8_kin_45 : decode cX8_kin 45 = .ok (.aload_n 0, 1) := by decide +kernel
theorem dX8_kin_46 : decode cX8_kin 46 = .ok (.iload_n 1, 1) := by decide +kernel
theorem dX8_kin_47 : decode cX8_kin 47 = .ok (.iload 5, 2) := by decide +kernel
theorem dX8_kin_49 : decode cX8_kin 49 = .ok (.iload_n 2, 1) := by decide +kernel
theorem dX8_kin_50 : decode cX8_kin 50 = .ok (.invokevirtual 176, 3) := by decide +kernel
theorem dX8_kin_53 : decode cX8_kin 53 = .ok (.istore 6, 2) := by decide +kernel
theorem dX8_kin_55 : decode cX8_kin 55 = .ok (.iload 6, 2) := by decide +kernel
theorem dX8_kin_57 : decode cX8_kin 57 = .ok (.iload 4, 2) := by decide +kernel
theorem dX8_kin_59 : decode cX8_kin 59 = .ok (.if_icmp .le 8, 3) := by decide +kernel
theorem dX8_kin_62 : decode cX8_kin 62 = .ok (.iload 5, 2) := by decide +kernel
theorem dX8_kin_64 : decode cX8_kin 64 = .ok (.goto 4, 3) := by decide +kernel
theorem dX8_kin_67 : decode cX8_kin 67 = .ok (.iload_n 3, 1) := by decide +kernel
theorem dX8_kin_68 : decode cX8_kin 68 = .ok (.istore_n 3, 1) := by decide +kernel
theorem dX8_kin_69 : decode cX8_kin 69 = .ok (.iload 6, 2) := by decide +kernel
theorem dX8_kin_71 : decode cX8_kin 71 = .ok (.iload 4, 2) := by decide +kernel
theorem dX8_kin_73 : decode cX8_kin 73 = .ok (.if_icmp .le 8, 3) := by decide +kernel
theorem dX8_kin_76 : decode cX8_kin 76 = .ok (.iload 6, 2) := by decide +kernel
theorem dX8_kin_78 : decode cX8_kin 78 = .ok (.goto 5, 3) := by decide +kernel
theorem dX8_kin_81 : decode cX8_kin 81 = .ok (.iload 4, 2) := by decide +kernel
theorem dX8_kin_83 : decode cX8_kin 83 = .ok (.istore 4, 2) := by decide +kernel
theorem dX8_kin_85 : decode cX8_kin 85 = .ok (.iinc 5 1, 3) := by decide +kernel
theorem dX8_kin_88 : decode cX8_kin 88 = .ok (.goto (-56), 3) := by decide +kernel
theorem dX8_kin_91 : decode cX8_kin 91 = .ok (.aload_n 0, 1) := by decide +kernel
theorem dX8_kin_92 : decode cX8_kin 92 = .ok (.getfield 92, 3) := by decide +kernel
theorem dX8_kin_95 : decode cX8_kin 95 = .ok (.ifCond .le 7, 3) := by decide +kernel
theorem dX8_kin_98 : decode cX8_kin 98 = .ok (.iconst 0, 1) := by decide +kernel
theorem dX8_kin_99 : decode cX8_kin 99 = .ok (.goto 4, 3) := by decide +kernel
theorem dX8_kin_102 : decode cX8_kin 102 = .ok (.iload_n 3, 1) := by decide +kernel
theorem dX8_kin_103 : decode cX8_kin 103 = .ok (.ireturn, 1) := by decide +kernel
theorem dX8_date_0 : decode cX8_date 0 = .ok (.aload_n 0, 1) := by decide +kernel
theorem dX8_date_1 : decode cX8_date 1 = .ok (.aload_n 0, 1) := by decide +kernel
theorem dX8_date_2 : decode cX8_date 2 = .ok (.iload_n 1, 1) := by decide +kernel
theorem dX8_date_3 : decode cX8_date 3 = .ok (.invokevirtual 136, 3) := by decide +kernel
theorem dX8_date_6 : decode cX8_date 6 = .ok (.ifCond .eq 14, 3) := by decide +kernel
theorem dX8_date_9 : decode cX8_date 9 = .ok (.iload_n 2, 1) := by decide +kernel
theorem dX8_date_10 : decode cX8_date 10 = .ok (.invokestatic 152, 3) := by decide +kernel
theorem dX8_date_13 : decode cX8_date 13 = .ok (.ifCond .eq 7, 3) := by decide +kernel
theorem dX8_date_16 : decode cX8_date 16 = .ok (.iconst 0, 1) := by decide +kernel
theorem dX8_date_17 : decode cX8_date 17 = .ok (.goto 4, 3) := by decide +kernel
theorem dX8_date_20 : decode cX8_date 20 = .ok (.iconst 1, 1) := by decide +kernel
theorem dX8_date_21 : decode cX8_date 21 = .ok (.putfield 92, 3) := by decide +kernel
theorem dX8_date_24 : decode cX8_date 24 = .ok (.iconst (-1), 1) := by decide +kernel
theorem dX8_date_25 : decode cX8_date 25 = .ok (.istore_n 3, 1) := by decide +kernel
theorem dX8_date_26 : decode cX8_date 26 = .ok (.bipush 8, 2) := by decide +kernel
theorem dX8_date_28 : decode cX8_date 28 = .ok (.iload_n 2, 1) := by decide +kernel
theorem dX8_date_29 : decode cX8_date 29 = .ok (.imul, 1) := by decide +kernel
theorem dX8_date_30 : decode cX8_date 30 = .ok (.istore 4, 2) := by decide +kernel
theorem dX8_date_32 : decode cX8_date 32 = .ok (.iload 4, 2) := by decide +kernel
theorem dX8_date_34 : decode cX8_date 34 = .ok (.bipush 8, 2) := by decide +kernel
theorem dX8_date_36 : decode cX8_date 36 = .ok (.iload_n 2, 1) := by decide +kernel
theorem dX8_date_37 : decode cX8_date 37 = .ok (.imul, 1) := by decide +kernel
theorem dX8_date_38 : decode cX8_date 38 = .ok (.bipush 8, 2) := by decide +kernel
theorem dX8_date_40 : decode cX8_date 40 = .ok (.iadd, 1) := by decide +kernel
theorem dX8_date_41 : decode cX8_date 41 = .ok (.if_icmp .ge 73, 3) := by decide +kernel
theorem dX8_date_44 : decode cX8_date 44 = .ok (.aload_n 0, 1) := by decide +kernel
theorem dX8_date_45 : decode cX8_date 45 = .ok (.getfield 92, 3) := by decide +kernel
theorem dX8_date_48 : decode cX8_date 48 = .ok (.ifCond .ne 66, 3) := by decide +kernel
theorem dX8_date_51 : decode cX8_date 51 = .ok (.aload_n 0, 1) := by decide +kernel
theorem dX8_date_52 : decode cX8_date 52 = .ok (.getfield 56, 3) := by decide +kernel
theorem dX8_date_55 : decode cX8_date 55 = .ok (.bipush 24, 2) := by decide +kernel
theorem dX8_date_57 : decode cX8_date 57 = .ok (.iload_n 1, 1) := by decide +kernel
theorem dX8_date_58 : decode cX8_date 58 = .ok (.imul, 1) := by decide +kernel
theorem dX8_date_59 : decode cX8_date 59 = .ok (.iload 4, 2) := by decide +kernel
theorem dX8_date_61 : decode cX8_date 61 = .ok (.iadd, 1) := by decide +kernel
theorem dX8_date_62 : decode cX8_date 62 = .ok (.iaload, 1) := by decide +kernel
theorem dX8_date_63 : decode cX8_date 63 = .ok (.aload_n 0, 1) := by decide +kernel
theorem dX8_date_64 : decode cX8_date 64 = .ok (.getfield 16, 3) := by decide +kernel
theorem dX8_date_67 : decode cX8_date 67 = .ok (.iload 4, 2) := by decide +kernel
theorem dX8_date_69 : decode cX8_date 69 = .ok (.iaload, 1) := by decide +kernel
theorem dX8_date_70 : decode cX8_date 70 = .ok (.if_icmp .ne 7, 3) := by decide +kernel
theorem dX8_date_73 : decode cX8_date 73 = .ok (.iconst 1, 1) := by decide +kernel
theorem dX8_date_74 : decode cX8_date 74 = .ok (.goto 4, 3) := by decide +kernel
theorem dX8_date_77 : decode cX8_date 77 = .ok (.iconst 0, 1) := by decide +kernel
theorem dX8_date_78 : decode cX8_date 78 = .ok (.istore 5, 2) := by decide +kernel
theorem dX8_date_80 : decode cX8_date 80 = .ok (.iload 5, 2) := by decide +kernel
theorem dX8_date_82 : decode cX8_date 82 = .ok (.ifCond .eq 24, 3) := by decide +kernel
theorem dX8_date_85 : decode cX8_date 85 = .ok (.aload_n 0, 1) := by decide +kernel
theorem dX8_date_86 : decode cX8_date 86 = .ok (.getfield 19, 3) := by decide +kernel
theorem dX8_date_89 : decode cX8_date 89 = .ok (.iload 4, 2) := by decide +kernel
theorem dX8_date_91 : decode cX8_date 91 = .ok (.iaload, 1) := by decide +kernel
theorem dX8_date_92 : decode cX8_date 92 = .ok (.iload_n 3, 1) := by decide +kernel
theorem dX8_date_93 : decode cX8_date 93 = .ok (.if_icmp .le 13, 3) := by decide +kernel
theorem dX8_date_96 : decode cX8_date 96 = .ok (.aload_n 0, 1) := by decide +kernel
theorem dX8_date_97 : decode cX8_date 97 = .ok (.getfield 19, 3) := by decide +kernel
theorem dX8_date_100 : decode cX8_date 100 = .ok (.iload 4, 2) := by decide +kernel
theorem dX8_date_102 : decode cX8_date 102 = .ok (.iaload, 1) := by decide +kernel
theorem dX8_date_103 : decode cX8_date 103 = .ok (.goto 4, 3) := by decide +kernel
theorem dX8_date_106 : decode cX8_date 106 = .ok (.iload_n 3, 1) := by decide +kernel
theorem dX8_date_107 : decode cX8_date 107 = .ok (.istore_n 3, 1) := by decide +kernel
theorem dX8_date_108 : decode cX8_date 108 = .ok (.iinc 4 1, 3) := by decide +kernel
theorem dX8_date_111 : decode cX8_date 111 = .ok (.goto (-79), 3) := by decide +kernel
theorem dX8_date_114 : decode cX8_date 114 = .ok (.aload_n 0, 1) := by decide +kernel
theorem dX8_date_115 : decode cX8_date 115 = .ok (.getfield 92, 3) := by decide +kernel
theorem dX8_date_118 : decode cX8_date 118 = .ok (.ifCond .le 7, 3) := by decide +kernel
theorem dX8_date_121 : decode cX8_date 121 = .ok (.iconst 0, 1) := by decide +kernel
theorem dX8_date_122 : decode cX8_date 122 = .ok (.goto 4, 3) := by decide +kernel
theorem dX8_date_125 : decode cX8_date 125 = .ok (.iload_n 3, 1) := by decide +kernel
theorem dX8_date_126 : decode cX8_date 126 = .ok (.ireturn, 1) := by decide +kernel
end
section
theorem dL_coast_0 : decode cL_coast 0 = .ok (.aload_n 0, 1) := by decide +kernel
theorem dL_coast_1 : decode cL_coast 1 = .ok (.iload_n 1, 1) := by decide +kernel
theorem dL_coast_2 : decode cL_coast 2 = .ok (.iload_n 2, 1) := by decide +kernel
theorem dL_coast_3 : decode cL_coast 3 = .ok (.iload_n 3, 1) := by decide +kernel
theorem dL_coast_4 : decode cL_coast 4 = .ok (.iload 4, 2) := by decide +kernel
theorem dL_coast_6 : decode cL_coast 6 = .ok (.iload 5, 2) := by decide +kernel
theorem dL_coast_8 : decode cL_coast 8 = .ok (.invokevirtual 7, 3) := by decide +kernel
theorem dL_coast_11 : decode cL_coast 11 = .ok (.goto 15, 3) := by decide +kernel
theorem dL_coast_14 : decode cL_coast 14 = .ok (.astore 6, 2) := by decide +kernel
theorem dL_coast_16 : decode cL_coast 16 = .ok (.iconst 1, 1) := by decide +kernel
theorem dL_coast_17 : decode cL_coast 17 = .ok (.ireturn, 1) := by decide +kernel
theorem dL_coast_18 : decode cL_coast 18 = .ok (.astore 6, 2) := by decide +kernel
theorem dL_coast_20 : decode cL_coast 20 = .ok (.iconst 2, 1) := by decide +kernel
theorem dL_coast_21 : decode cL_coast 21 = .ok (.ireturn, 1) := by decide +kernel
theorem dL_coast_22 : decode cL_coast 22 = .ok (.astore 6, 2) := by decide +kernel
theorem dL_coast_24 : decode cL_coast 24 = .ok (.iconst 3, 1) := by decide +kernel
theorem dL_coast_25 : decode cL_coast 25 = .ok (.ireturn, 1) := by decide +kernel
theorem dL_coast_26 : decode cL_coast 26 = .ok (.iconst 0, 1) := by decide +kernel
theorem dL_coast_27 : decode cL_coast 27 = .ok (.ireturn, 1) := by decide +kernel
theorem dL_pilot_0 : decode cL_pilot 0 = .ok (.aload_n 3, 1) := by decide +kernel
theorem dL_pilot_1 : decode cL_pilot 1 = .ok (.iconst 0, 1) := by decide +kernel
theorem dL_pilot_2 : decode cL_pilot 2 = .ok (.aload_n 0, 1) := by decide +kernel
theorem dL_pilot_3 : decode cL_pilot 3 = .ok (.iload_n 1, 1) := by decide +kernel
theorem dL_pilot_4 : decode cL_pilot 4 = .ok (.iload_n 2, 1) := by decide +kernel
theorem dL_pilot_5 : decode cL_pilot 5 = .ok (.invokevirtual 19, 3) := by decide +kernel
theorem dL_pilot_8 : decode cL_pilot 8 = .ok (.i2l, 1) := by decide +kernel
theorem dL_pilot_9 : decode cL_pilot 9 = .ok (.lastore, 1) := by decide +kernel
theorem dL_pilot_10 : decode cL_pilot 10 = .ok (.goto 11, 3) := by decide +kernel
theorem dL_pilot_13 : decode cL_pilot 13 = .ok (.astore 4, 2) := by decide +kernel
theorem dL_pilot_15 : decode cL_pilot 15 = .ok (.iconst 1, 1) := by decide +kernel
theorem dL_pilot_16 : decode cL_pilot 16 = .ok (.ireturn, 1) := by decide +kernel
theorem dL_pilot_17 : decode cL_pilot 17 = .ok (.astore 4, 2) := by decide +kernel
theorem dL_pilot_19 : decode cL_pilot 19 = .ok (.iconst 2, 1) := by decide +kernel
theorem dL_pilot_20 : decode cL_pilot 20 = .ok (.ireturn, 1) := by decide +kernel
theorem dL_pilot_21 : decode cL_pilot 21 = .ok (.iconst 0, 1) := by decide +kernel
theorem dL_pilot_22 : decode cL_pilot 22 = .ok (.ireturn, 1) := by decide +kernel
theorem dL_report_0 : decode cL_report 0 = .ok (.aload 4, 2) := by decide +kernel
theorem dL_report_2 : decode cL_report 2 = .ok (.iconst 0, 1) := by decide +kernel
theorem dL_report_3 : decode cL_report 3 = .ok (.aload_n 0, 1) := by decide +kernel
theorem dL_report_4 : decode cL_report 4 = .ok (.iload_n 1, 1) := by decide +kernel
theorem dL_report_5 : decode cL_report 5 = .ok (.iload_n 2, 1) := by decide +kernel
theorem dL_report_6 : decode cL_report 6 = .ok (.iload_n 3, 1) := by decide +kernel
theorem dL_report_7 : decode cL_report 7 = .ok (.invokevirtual 23, 3) := by decide +kernel
theorem dL_report_10 : decode cL_report 10 = .ok (.i2l, 1) := by decide +kernel
theorem dL_report_11 : decode cL_report 11 = .ok (.lastore, 1) := by decide +kernel
theorem dL_report_12 : decode cL_report 12 = .ok (.goto 15, 3) := by decide +kernel
theorem dL_report_15 : decode cL_report 15 = .ok (.astore 5, 2) := by decide +kernel
theorem dL_report_17 : decode cL_report 17 = .ok (.iconst 1, 1) := by decide +kernel
theorem dL_report_18 : decode cL_report 18 = .ok (.ireturn, 1) := by decide +kernel
theorem dL_report_19 : decode cL_report 19 = .ok (.astore 5, 2) := by decide +kernel
theorem dL_report_21 : decode cL_report 21 = .ok (.iconst 2, 1) := by decide +kernel
theorem dL_report_22 : decode cL_report 22 = .ok (.ireturn, 1) := by decide +kernel
theorem dL_report_23 : decode cL_report 23 = .ok (.astore 5, 2) := by decide +kernel
theorem dL_report_25 : decode cL_report 25 = .ok (.iconst 3, 1) := by decide +kernel
theorem dL_report_26 : decode cL_report 26 = .ok (.ireturn, 1) := by decide +kernel
theorem dL_report_27 : decode cL_report 27 = .ok (.iconst 0, 1) := by decide +kernel
theorem dL_report_28 : decode cL_report 28 = .ok (.ireturn, 1) := by decide +kernel
theorem dL_chart_0 : decode cL_chart 0 = .ok (.aload_n 3, 1) := by decide +kernel
theorem dL_chart_1 : decode cL_chart 1 = .ok (.iconst 0, 1) := by decide +kernel
theorem dL_chart_2 : decode cL_chart 2 = .ok (.aload_n 0, 1) := by decide +kernel
theorem dL_chart_3 : decode cL_chart 3 = .ok (.iload_n 1, 1) := by decide +kernel
theorem dL_chart_4 : decode cL_chart 4 = .ok (.iload_n 2, 1) := by decide +kernel
theorem dL_chart_5 : decode cL_chart 5 = .ok (.invokevirtual 27, 3) := by decide +kernel
theorem dL_chart_8 : decode cL_chart 8 = .ok (.i2l, 1) := by decide +kernel
theorem dL_chart_9 : decode cL_chart 9 = .ok (.lastore, 1) := by decide +kernel
theorem dL_chart_10 : decode cL_chart 10 = .ok (.goto 11, 3) := by decide +kernel
theorem dL_chart_13 : decode cL_chart 13 = .ok (.astore 4, 2) := by decide +kernel
theorem dL_chart_15 : decode cL_chart 15 = .ok (.iconst 1, 1) := by decide +kernel
theorem dL_chart_16 : decode cL_chart 16 = .ok (.ireturn, 1) := by decide +kernel
theorem dL_chart_17 : decode cL_chart 17 = .ok (.astore 4, 2) := by decide +kernel
theorem dL_chart_19 : decode cL_chart 19 = .ok (.iconst 2, 1) := by decide +kernel
theorem dL_chart_20 : decode cL_chart 20 = .ok (.ireturn, 1) := by decide +kernel
theorem dL_chart_21 : decode cL_chart 21 = .ok (.iconst 0, 1) := by decide +kernel
theorem dL_chart_22 : decode cL_chart 22 = .ok (.ireturn, 1) := by decide +kernel
theorem dL_hand_0 : decode cL_hand 0 = .ok (.aload_n 3, 1) := by decide +kernel
theorem dL_hand_1 : decode cL_hand 1 = .ok (.iconst 0, 1) := by decide +kernel
theorem dL_hand_2 : decode cL_hand 2 = .ok (.aload_n 0, 1) := by decide +kernel
theorem dL_hand_3 : decode cL_hand 3 = .ok (.iload_n 1, 1) := by decide +kernel
theorem dL_hand_4 : decode cL_hand 4 = .ok (.iload_n 2, 1) := by decide +kernel
theorem dL_hand_5 : decode cL_hand 5 = .ok (.invokevirtual 30, 3) := by decide +kernel
theorem dL_hand_8 : decode cL_hand 8 = .ok (.i2l, 1) := by decide +kernel
theorem dL_hand_9 : decode cL_hand 9 = .ok (.lastore, 1) := by decide +kernel
theorem dL_hand_10 : decode cL_hand 10 = .ok (.goto 11, 3) := by decide +kernel
theorem dL_hand_13 : decode cL_hand 13 = .ok (.astore 4, 2) := by decide +kernel
theorem dL_hand_15 : decode cL_hand 15 = .ok (.iconst 1, 1) := by decide +kernel
theorem dL_hand_16 : decode cL_hand 16 = .ok (.ireturn, 1) := by decide +kernel
theorem dL_hand_17 : decode cL_hand 17 = .ok (.astore 4, 2) := by decide +kernel
theorem dL_hand_19 : decode cL_hand 19 = .ok (.iconst 2, 1) := by decide +kernel
theorem dL_hand_20 : decode cL_hand 20 = .ok (.ireturn, 1) := by decide +kernel
theorem dL_hand_21 : decode cL_hand 21 = .ok (.iconst 0, 1) := by decide +kernel
theorem dL_hand_22 : decode cL_hand 22 = .ok (.ireturn, 1) := by decide +kernel
theorem dL_reads_0 : decode cL_reads 0 = .ok (.aload_n 0, 1) := by decide +kernel
theorem dL_reads_1 : decode cL_reads 1 = .ok (.iload_n 1, 1) := by decide +kernel
theorem dL_reads_2 : decode cL_reads 2 = .ok (.iload_n 2, 1) := by decide +kernel
theorem dL_reads_3 : decode cL_reads 3 = .ok (.iload_n 3, 1) := by decide +kernel
theorem dL_reads_4 : decode cL_reads 4 = .ok (.invokevirtual 33, 3) := by decide +kernel
theorem dL_reads_7 : decode cL_reads 7 = .ok (.goto 11, 3) := by decide +kernel
theorem dL_reads_10 : decode cL_reads 10 = .ok (.astore 4, 2) := by decide +kernel
theorem dL_reads_12 : decode cL_reads 12 = .ok (.iconst 1, 1) := by decide +kernel
theorem dL_reads_13 : decode cL_reads 13 = .ok (.ireturn, 1) := by decide +kernel
theorem dL_reads_14 : decode cL_reads 14 = .ok (.astore 4, 2) := by decide +kernel
theorem dL_reads_16 : decode cL_reads 16 = .ok (.iconst 2, 1) := by decide +kernel
theorem dL_reads_17 : decode cL_reads 17 = .ok (.ireturn, 1) := by decide +kernel
theorem dL_reads_18 : decode cL_reads 18 = .ok (.iconst 0, 1) := by decide +kernel
theorem dL_reads_19 : decode cL_reads 19 = .ok (.ireturn, 1) := by decide +kernel
theorem dL_copy_0 : decode cL_copy 0 = .ok (.aload 5, 2) := by decide +kernel
theorem dL_copy_2 : decode cL_copy 2 = .ok (.iconst 0, 1) := by decide +kernel
theorem dL_copy_3 : decode cL_copy 3 = .ok (.aload_n 0, 1) := by decide +kernel
theorem dL_copy_4 : decode cL_copy 4 = .ok (.iload_n 1, 1) := by decide +kernel
theorem dL_copy_5 : decode cL_copy 5 = .ok (.iload_n 2, 1) := by decide +kernel
theorem dL_copy_6 : decode cL_copy 6 = .ok (.iload_n 3, 1) := by decide +kernel
theorem dL_copy_7 : decode cL_copy 7 = .ok (.iload 4, 2) := by decide +kernel
theorem dL_copy_9 : decode cL_copy 9 = .ok (.invokevirtual 37, 3) := by decide +kernel
theorem dL_copy_12 : decode cL_copy 12 = .ok (.i2l, 1) := by decide +kernel
theorem dL_copy_13 : decode cL_copy 13 = .ok (.lastore, 1) := by decide +kernel
theorem dL_copy_14 : decode cL_copy 14 = .ok (.goto 15, 3) := by decide +kernel
theorem dL_copy_17 : decode cL_copy 17 = .ok (.astore 6, 2) := by decide +kernel
theorem dL_copy_19 : decode cL_copy 19 = .ok (.iconst 1, 1) := by decide +kernel
theorem dL_copy_20 : decode cL_copy 20 = .ok (.ireturn, 1) := by decide +kernel
theorem dL_copy_21 : decode cL_copy 21 = .ok (.astore 6, 2) := by decide +kernel
theorem dL_copy_23 : decode cL_copy 23 = .ok (.iconst 2, 1) := by decide +kernel
theorem dL_copy_24 : decode cL_copy 24 = .ok (.ireturn, 1) := by decide +kernel
theorem dL_copy_25 : decode cL_copy 25 = .ok (.astore 6, 2) := by decide +kernel
theorem dL_copy_27 : decode cL_copy 27 = .ok (.iconst 3, 1) := by decide +kernel
theorem dL_copy_28 : decode cL_copy 28 = .ok (.ireturn, 1) := by decide +kernel
theorem dL_copy_29 : decode cL_copy 29 = .ok (.iconst 0, 1) := by decide +kernel
theorem dL_copy_30 : decode cL_copy 30 = .ok (.ireturn, 1) := by decide +kernel
theorem dL_paste_0 : decode cL_paste 0 = .ok (.aload 5, 2) := by decide +kernel
theorem dL_paste_2 : decode cL_paste 2 = .ok (.iconst 0, 1) := by decide +kernel
theorem dL_paste_3 : decode cL_paste 3 = .ok (.aload_n 0, 1) := by decide +kernel
theorem dL_paste_4 : decode cL_paste 4 = .ok (.iload_n 1, 1) := by decide +kernel
theorem dL_paste_5 : decode cL_paste 5 = .ok (.iload_n 2, 1) := by decide +kernel
theorem dL_paste_6 : decode cL_paste 6 = .ok (.iload_n 3, 1) := by decide +kernel
theorem dL_paste_7 : decode cL_paste 7 = .ok (.iload 4, 2) := by decide +kernel
theorem dL_paste_9 : decode cL_paste 9 = .ok (.invokevirtual 41, 3) := by decide +kernel
theorem dL_paste_12 : decode cL_paste 12 = .ok (.i2l, 1) := by decide +kernel
theorem dL_paste_13 : decode cL_paste 13 = .ok (.lastore, 1) := by decide +kernel
theorem dL_paste_14 : decode cL_paste 14 = .ok (.goto 15, 3) := by decide +kernel
theorem dL_paste_17 : decode cL_paste 17 = .ok (.astore 6, 2) := by decide +kernel
theorem dL_paste_19 : decode cL_paste 19 = .ok (.iconst 1, 1) := by decide +kernel
theorem dL_paste_20 : decode cL_paste 20 = .ok (.ireturn, 1) := by decide +kernel
theorem dL_paste_21 : decode cL_paste 21 = .ok (.astore 6, 2) := by decide +kernel
theorem dL_paste_23 : decode cL_paste 23 = .ok (.iconst 2, 1) := by decide +kernel
theorem dL_paste_24 : decode cL_paste 24 = .ok (.ireturn, 1) := by decide +kernel
theorem dL_paste_25 : decode cL_paste 25 = .ok (.astore 6, 2) := by decide +kernel
theorem dL_paste_27 : decode cL_paste 27 = .ok (.iconst 3, 1) := by decide +kernel
theorem dL_paste_28 : decode cL_paste 28 = .ok (.ireturn, 1) := by decide +kernel
theorem dL_paste_29 : decode cL_paste 29 = .ok (.iconst 0, 1) := by decide +kernel
theorem dL_paste_30 : decode cL_paste 30 = .ok (.ireturn, 1) := by decide +kernel
theorem dL_island_0 : decode cL_island 0 = .ok (.aload 4, 2) := by decide +kernel
theorem dL_island_2 : decode cL_island 2 = .ok (.iconst 0, 1) := by decide +kernel
theorem dL_island_3 : decode cL_island 3 = .ok (.aload_n 0, 1) := by decide +kernel
theorem dL_island_4 : decode cL_island 4 = .ok (.iload_n 1, 1) := by decide +kernel
theorem dL_island_5 : decode cL_island 5 = .ok (.iload_n 2, 1) := by decide +kernel
theorem dL_island_6 : decode cL_island 6 = .ok (.iload_n 3, 1) := by decide +kernel
theorem dL_island_7 : decode cL_island 7 = .ok (.invokevirtual 44, 3) := by decide +kernel
theorem dL_island_10 : decode cL_island 10 = .ok (.i2l, 1) := by decide +kernel
theorem dL_island_11 : decode cL_island 11 = .ok (.lastore, 1) := by decide +kernel
theorem dL_island_12 : decode cL_island 12 = .ok (.goto 15, 3) := by decide +kernel
theorem dL_island_15 : decode cL_island 15 = .ok (.astore 5, 2) := by decide +kernel
theorem dL_island_17 : decode cL_island 17 = .ok (.iconst 1, 1) := by decide +kernel
theorem dL_island_18 : decode cL_island 18 = .ok (.ireturn, 1) := by decide +kernel
theorem dL_island_19 : decode cL_island 19 = .ok (.astore 5, 2) := by decide +kernel
theorem dL_island_21 : decode cL_island 21 = .ok (.iconst 2, 1) := by decide +kernel
theorem dL_island_22 : decode cL_island 22 = .ok (.ireturn, 1) := by decide +kernel
theorem dL_island_23 : decode cL_island 23 = .ok (.astore 5, 2) := by decide +kernel
theorem dL_island_25 : decode cL_island 25 = .ok (.iconst 3, 1) := by decide +kernel
theorem dL_island_26 : decode cL_island 26 = .ok (.ireturn, 1) := by decide +kernel
theorem dL_island_27 : decode cL_island 27 = .ok (.iconst 0, 1) := by decide +kernel
theorem dL_island_28 : decode cL_island 28 = .ok (.ireturn, 1) := by decide +kernel
theorem dL_exchange_0 : decode cL_exchange 0 = .ok (.aload_n 0, 1) := by decide +kernel
theorem dL_exchange_1 : decode cL_exchange 1 = .ok (.iload_n 1, 1) := by decide +kernel
theorem dL_exchange_2 : decode cL_exchange 2 = .ok (.iload_n 2, 1) := by decide +kernel
theorem dL_exchange_3 : decode cL_exchange 3 = .ok (.iload_n 3, 1) := by decide +kernel
theorem dL_exchange_4 : decode cL_exchange 4 = .ok (.invokevirtual 47, 3) := by decide +kernel
theorem dL_exchange_7 : decode cL_exchange 7 = .ok (.goto 7, 3) := by decide +kernel
theorem dL_exchange_10 : decode cL_exchange 10 = .ok (.astore 4, 2) := by decide +kernel
theorem dL_exchange_12 : decode cL_exchange 12 = .ok (.iconst 1, 1) := by decide +kernel
theorem dL_exchange_13 : decode cL_exchange 13 = .ok (.ireturn, 1) := by decide +kernel
theorem dL_exchange_14 : decode cL_exchange 14 = .ok (.iconst 0, 1) := by decide +kernel
theorem dL_exchange_15 : decode cL_exchange 15 = .ok (.ireturn, 1) := by decide +kernel
theorem dL_shrink_0 : decode cL_shrink 0 = .ok (.aload 5, 2) := by decide +kernel
theorem dL_shrink_2 : decode cL_shrink 2 = .ok (.iconst 0, 1) := by decide +kernel
theorem dL_shrink_3 : decode cL_shrink 3 = .ok (.aload_n 0, 1) := by decide +kernel
theorem dL_shrink_4 : decode cL_shrink 4 = .ok (.iload_n 1, 1) := by decide +kernel
theorem dL_shrink_5 : decode cL_shrink 5 = .ok (.iload_n 2, 1) := by decide +kernel
theorem dL_shrink_6 : decode cL_shrink 6 = .ok (.iload_n 3, 1) := by decide +kernel
theorem dL_shrink_7 : decode cL_shrink 7 = .ok (.iload 4, 2) := by decide +kernel
theorem dL_shrink_9 : decode cL_shrink 9 = .ok (.invokevirtual 50, 3) := by decide +kernel
theorem dL_shrink_12 : decode cL_shrink 12 = .ok (.i2l, 1) := by decide +kernel
theorem dL_shrink_13 : decode cL_shrink 13 = .ok (.lastore, 1) := by decide +kernel
theorem dL_shrink_14 : decode cL_shrink 14 = .ok (.goto 15, 3) := by decide +kernel
theorem dL_shrink_17 : decode cL_shrink 17 = .ok (.astore 6, 2) := by decide +kernel
theorem dL_shrink_19 : decode cL_shrink 19 = .ok (.iconst 1, 1) := by decide +kernel
theorem dL_shrink_20 : decode cL_shrink 20 = .ok (.ireturn, 1) := by decide +kernel
theorem dL_shrink_21 : decode cL_shrink 21 = .ok (.astore 6, 2) := by decide +kernel
theorem dL_shrink_23 : decode cL_shrink 23 = .ok (.iconst 2, 1) := by decide +kernel
theorem dL_shrink_24 : decode cL_shrink 24 = .ok (.ireturn, 1) := by decide +kernel
theorem dL_shrink_25 : decode cL_shrink 25 = .ok (.astore 6, 2) := by decide +kernel
theorem dL_shrink_27 : decode cL_shrink 27 = .ok (.iconst 3, 1) := by decide +kernel
theorem dL_shrink_28 : decode cL_shrink 28 = .ok (.ireturn, 1) := by decide +kernel
theorem dL_shrink_29 : decode cL_shrink 29 = .ok (.iconst 0, 1) := by decide +kernel
theorem dL_shrink_30 : decode cL_shrink 30 = .ok (.ireturn, 1) := by decide +kernel
theorem dL_lose_0 : decode cL_lose 0 = .ok (.aload 4, 2) := by decide +kernel
theorem dL_lose_2 : decode cL_lose 2 = .ok (.iconst 0, 1) := by decide +kernel
theorem dL_lose_3 : decode cL_lose 3 = .ok (.aload_n 0, 1) := by decide +kernel
theorem dL_lose_4 : decode cL_lose 4 = .ok (.iload_n 1, 1) := by decide +kernel
theorem dL_lose_5 : decode cL_lose 5 = .ok (.iload_n 2, 1) := by decide +kernel
theorem dL_lose_6 : decode cL_lose 6 = .ok (.iload_n 3, 1) := by decide +kernel
theorem dL_lose_7 : decode cL_lose 7 = .ok (.invokevirtual 54, 3) := by decide +kernel
theorem dL_lose_10 : decode cL_lose 10 = .ok (.i2l, 1) := by decide +kernel
theorem dL_lose_11 : decode cL_lose 11 = .ok (.lastore, 1) := by decide +kernel
theorem dL_lose_12 : decode cL_lose 12 = .ok (.goto 11, 3) := by decide +kernel
theorem dL_lose_15 : decode cL_lose 15 = .ok (.astore 5, 2) := by decide +kernel
theorem dL_lose_17 : decode cL_lose 17 = .ok (.iconst 1, 1) := by decide +kernel
theorem dL_lose_18 : decode cL_lose 18 = .ok (.ireturn, 1) := by decide +kernel
theorem dL_lose_19 : decode cL_lose 19 = .ok (.astore 5, 2) := by decide +kernel
theorem dL_lose_21 : decode cL_lose 21 = .ok (.iconst 2, 1) := by decide +kernel
theorem dL_lose_22 : decode cL_lose 22 = .ok (.ireturn, 1) := by decide +kernel
theorem dL_lose_23 : decode cL_lose 23 = .ok (.iconst 0, 1) := by decide +kernel
theorem dL_lose_24 : decode cL_lose 24 = .ok (.ireturn, 1) := by decide +kernel
theorem dL_paint_0 : decode cL_paint 0 = .ok (.aload_n 3, 1) := by decide +kernel
theorem dL_paint_1 : decode cL_paint 1 = .ok (.iconst 0, 1) := by decide +kernel
theorem dL_paint_2 : decode cL_paint 2 = .ok (.aload_n 0, 1) := by decide +kernel
theorem dL_paint_3 : decode cL_paint 3 = .ok (.iload_n 1, 1) := by decide +kernel
theorem dL_paint_4 : decode cL_paint 4 = .ok (.iload_n 2, 1) := by decide +kernel
theorem dL_paint_5 : decode cL_paint 5 = .ok (.invokevirtual 57, 3) := by decide +kernel
theorem dL_paint_8 : decode cL_paint 8 = .ok (.ifCond .eq 7, 3) := by decide +kernel
theorem dL_paint_11 : decode cL_paint 11 = .ok (.lconst 1, 1) := by decide +kernel
theorem dL_paint_12 : decode cL_paint 12 = .ok (.goto 4, 3) := by decide +kernel
theorem dL_paint_15 : decode cL_paint 15 = .ok (.lconst 0, 1) := by decide +kernel
theorem dL_paint_16 : decode cL_paint 16 = .ok (.lastore, 1) := by decide +kernel
theorem dL_paint_17 : decode cL_paint 17 = .ok (.goto 7, 3) := by decide +kernel
theorem dL_paint_20 : decode cL_paint 20 = .ok (.astore 4, 2) := by decide +kernel
theorem dL_paint_22 : decode cL_paint 22 = .ok (.iconst 1, 1) := by decide +kernel
theorem dL_paint_23 : decode cL_paint 23 = .ok (.ireturn, 1) := by decide +kernel
theorem dL_paint_24 : decode cL_paint 24 = .ok (.iconst 0, 1) := by decide +kernel
theorem dL_paint_25 : decode cL_paint 25 = .ok (.ireturn, 1) := by decide +kernel
theorem dL_told_0 : decode cL_told 0 = .ok (.aload_n 3, 1) := by decide +kernel
theorem dL_told_1 : decode cL_told 1 = .ok (.iconst 0, 1) := by decide +kernel
theorem dL_told_2 : decode cL_told 2 = .ok (.aload_n 0, 1) := by decide +kernel
theorem dL_told_3 : decode cL_told 3 = .ok (.iload_n 1, 1) := by decide +kernel
theorem dL_told_4 : decode cL_told 4 = .ok (.iload_n 2, 1) := by decide +kernel
theorem dL_told_5 : decode cL_told 5 = .ok (.invokevirtual 61, 3) := by decide +kernel
theorem dL_told_8 : decode cL_told 8 = .ok (.i2l, 1) := by decide +kernel
theorem dL_told_9 : decode cL_told 9 = .ok (.lastore, 1) := by decide +kernel
theorem dL_told_10 : decode cL_told 10 = .ok (.goto 7, 3) := by decide +kernel
theorem dL_told_13 : decode cL_told 13 = .ok (.astore 4, 2) := by decide +kernel
theorem dL_told_15 : decode cL_told 15 = .ok (.iconst 1, 1) := by decide +kernel
theorem dL_told_16 : decode cL_told 16 = .ok (.ireturn, 1) := by decide +kernel
theorem dL_told_17 : decode cL_told 17 = .ok (.iconst 0, 1) := by decide +kernel
theorem dL_told_18 : decode cL_told 18 = .ok (.ireturn, 1) := by decide +kernel
theorem dL_at_0 : decode cL_at 0 = .ok (.aload 4, 2) := by decide +kernel
theorem dL_at_2 : decode cL_at 2 = .ok (.iconst 0, 1) := by decide +kernel
theorem dL_at_3 : decode cL_at 3 = .ok (.aload_n 0, 1) := by decide +kernel
theorem dL_at_4 : decode cL_at 4 = .ok (.iload_n 1, 1) := by decide +kernel
theorem dL_at_5 : decode cL_at 5 = .ok (.iload_n 2, 1) := by decide +kernel
theorem dL_at_6 : decode cL_at 6 = .ok (.iload_n 3, 1) := by decide +kernel
theorem dL_at_7 : decode cL_at 7 = .ok (.invokevirtual 65, 3) := by decide +kernel
theorem dL_at_10 : decode cL_at 10 = .ok (.i2l, 1) := by decide +kernel
theorem dL_at_11 : decode cL_at 11 = .ok (.lastore, 1) := by decide +kernel
theorem dL_at_12 : decode cL_at 12 = .ok (.goto 11, 3) := by decide +kernel
theorem dL_at_15 : decode cL_at 15 = .ok (.astore 5, 2) := by decide +kernel
theorem dL_at_17 : decode cL_at 17 = .ok (.iconst 1, 1) := by decide +kernel
theorem dL_at_18 : decode cL_at 18 = .ok (.ireturn, 1) := by decide +kernel
theorem dL_at_19 : decode cL_at 19 = .ok (.astore 5, 2) := by decide +kernel
theorem dL_at_21 : decode cL_at 21 = .ok (.iconst 2, 1) := by decide +kernel
theorem dL_at_22 : decode cL_at 22 = .ok (.ireturn, 1) := by decide +kernel
theorem dL_at_23 : decode cL_at 23 = .ok (.iconst 0, 1) := by decide +kernel
theorem dL_at_24 : decode cL_at 24 = .ok (.ireturn, 1) := by decide +kernel
theorem dL_chain_0 : decode cL_chain 0 = .ok (.aload 4, 2) := by decide +kernel
theorem dL_chain_2 : decode cL_chain 2 = .ok (.iconst 0, 1) := by decide +kernel
theorem dL_chain_3 : decode cL_chain 3 = .ok (.aload_n 0, 1) := by decide +kernel
theorem dL_chain_4 : decode cL_chain 4 = .ok (.iload_n 1, 1) := by decide +kernel
theorem dL_chain_5 : decode cL_chain 5 = .ok (.iload_n 2, 1) := by decide +kernel
theorem dL_chain_6 : decode cL_chain 6 = .ok (.iload_n 3, 1) := by decide +kernel
theorem dL_chain_7 : decode cL_chain 7 = .ok (.invokevirtual 68, 3) := by decide +kernel
theorem dL_chain_10 : decode cL_chain 10 = .ok (.i2l, 1) := by decide +kernel
theorem dL_chain_11 : decode cL_chain 11 = .ok (.lastore, 1) := by decide +kernel
theorem dL_chain_12 : decode cL_chain 12 = .ok (.goto 7, 3) := by decide +kernel
theorem dL_chain_15 : decode cL_chain 15 = .ok (.astore 5, 2) := by decide +kernel
theorem dL_chain_17 : decode cL_chain 17 = .ok (.iconst 1, 1) := by decide +kernel
theorem dL_chain_18 : decode cL_chain 18 = .ok (.ireturn, 1) := by decide +kernel
theorem dL_chain_19 : decode cL_chain 19 = .ok (.iconst 0, 1) := by decide +kernel
theorem dL_chain_20 : decode cL_chain 20 = .ok (.ireturn, 1) := by decide +kernel
theorem dL_of_0 : decode cL_of 0 = .ok (.aload_n 3, 1) := by decide +kernel
theorem dL_of_1 : decode cL_of 1 = .ok (.iconst 0, 1) := by decide +kernel
theorem dL_of_2 : decode cL_of 2 = .ok (.aload_n 0, 1) := by decide +kernel
theorem dL_of_3 : decode cL_of 3 = .ok (.iload_n 1, 1) := by decide +kernel
theorem dL_of_4 : decode cL_of 4 = .ok (.iload_n 2, 1) := by decide +kernel
theorem dL_of_5 : decode cL_of 5 = .ok (.invokevirtual 71, 3) := by decide +kernel
theorem dL_of_8 : decode cL_of 8 = .ok (.i2l, 1) := by decide +kernel
theorem dL_of_9 : decode cL_of 9 = .ok (.lastore, 1) := by decide +kernel
theorem dL_of_10 : decode cL_of 10 = .ok (.goto 11, 3) := by decide +kernel
theorem dL_of_13 : decode cL_of 13 = .ok (.astore 4, 2) := by decide +kernel
theorem dL_of_15 : decode cL_of 15 = .ok (.iconst 1, 1) := by decide +kernel
theorem dL_of_16 : decode cL_of 16 = .ok (.ireturn, 1) := by decide +kernel
theorem dL_of_17 : decode cL_of 17 = .ok (.astore 4, 2) := by decide +kernel
theorem dL_of_19 : decode cL_of 19 = .ok (.iconst 2, 1) := by decide +kernel
theorem dL_of_20 : decode cL_of 20 = .ok (.ireturn, 1) := by decide +kernel
theorem dL_of_21 : decode cL_of 21 = .ok (.iconst 0, 1) := by decide +kernel
theorem dL_of_22 : decode cL_of 22 = .ok (.ireturn, 1) := by decide +kernel
theorem dL_ofIsland_0 : decode cL_ofIsland 0 = .ok (.aload_n 3, 1) := by decide +kernel
theorem dL_ofIsland_1 : decode cL_ofIsland 1 = .ok (.iconst 0, 1) := by decide +kernel
theorem dL_ofIsland_2 : decode cL_ofIsland 2 = .ok (.aload_n 0, 1) := by decide +kernel
theorem dL_ofIsland_3 : decode cL_ofIsland 3 = .ok (.iload_n 1, 1) := by decide +kernel
theorem dL_ofIsland_4 : decode cL_ofIsland 4 = .ok (.iload_n 2, 1) := by decide +kernel
theorem dL_ofIsland_5 : decode cL_ofIsland 5 = .ok (.invokevirtual 74, 3) := by decide +kernel
theorem dL_ofIsland_8 : decode cL_ofIsland 8 = .ok (.i2l, 1) := by decide +kernel
theorem dL_ofIsland_9 : decode cL_ofIsland 9 = .ok (.lastore, 1) := by decide +kernel
theorem dL_ofIsland_10 : decode cL_ofIsland 10 = .ok (.goto 11, 3) := by decide +kernel
theorem dL_ofIsland_13 : decode cL_ofIsland 13 = .ok (.astore 4, 2) := by decide +kernel
theorem dL_ofIsland_15 : decode cL_ofIsland 15 = .ok (.iconst 1, 1) := by decide +kernel
theorem dL_ofIsland_16 : decode cL_ofIsland 16 = .ok (.ireturn, 1) := by decide +kernel
theorem dL_ofIsland_17 : decode cL_ofIsland 17 = .ok (.astore 4, 2) := by decide +kernel
theorem dL_ofIsland_19 : decode cL_ofIsland 19 = .ok (.iconst 2, 1) := by decide +kernel
theorem dL_ofIsland_20 : decode cL_ofIsland 20 = .ok (.ireturn, 1) := by decide +kernel
theorem dL_ofIsland_21 : decode cL_ofIsland 21 = .ok (.iconst 0, 1) := by decide +kernel
theorem dL_ofIsland_22 : decode cL_ofIsland 22 = .ok (.ireturn, 1) := by decide +kernel
theorem dL_fit_0 : decode cL_fit 0 = .ok (.aload 4, 2) := by decide +kernel
theorem dL_fit_2 : decode cL_fit 2 = .ok (.iconst 0, 1) := by decide +kernel
theorem dL_fit_3 : decode cL_fit 3 = .ok (.aload_n 0, 1) := by decide +kernel
theorem dL_fit_4 : decode cL_fit 4 = .ok (.iload_n 1, 1) := by decide +kernel
theorem dL_fit_5 : decode cL_fit 5 = .ok (.iload_n 2, 1) := by decide +kernel
theorem dL_fit_6 : decode cL_fit 6 = .ok (.iload_n 3, 1) := by decide +kernel
theorem dL_fit_7 : decode cL_fit 7 = .ok (.invokevirtual 77, 3) := by decide +kernel
theorem dL_fit_10 : decode cL_fit 10 = .ok (.i2l, 1) := by decide +kernel
theorem dL_fit_11 : decode cL_fit 11 = .ok (.lastore, 1) := by decide +kernel
theorem dL_fit_12 : decode cL_fit 12 = .ok (.goto 11, 3) := by decide +kernel
theorem dL_fit_15 : decode cL_fit 15 = .ok (.astore 5, 2) := by decide +kernel
theorem dL_fit_17 : decode cL_fit 17 = .ok (.iconst 1, 1) := by decide +kernel
theorem dL_fit_18 : decode cL_fit 18 = .ok (.ireturn, 1) := by decide +kernel
theorem dL_fit_19 : decode cL_fit 19 = .ok (.astore 5, 2) := by decide +kernel
theorem dL_fit_21 : decode cL_fit 21 = .ok (.iconst 2, 1) := by decide +kernel
theorem dL_fit_22 : decode cL_fit 22 = .ok (.ireturn, 1) := by decide +kernel
theorem dL_fit_23 : decode cL_fit 23 = .ok (.iconst 0, 1) := by decide +kernel
theorem dL_fit_24 : decode cL_fit 24 = .ok (.ireturn, 1) := by decide +kernel
theorem dL_shared_0 : decode cL_shared 0 = .ok (.aload 4, 2) := by decide +kernel
theorem dL_shared_2 : decode cL_shared 2 = .ok (.iconst 0, 1) := by decide +kernel
theorem dL_shared_3 : decode cL_shared 3 = .ok (.aload_n 0, 1) := by decide +kernel
theorem dL_shared_4 : decode cL_shared 4 = .ok (.iload_n 1, 1) := by decide +kernel
theorem dL_shared_5 : decode cL_shared 5 = .ok (.iload_n 2, 1) := by decide +kernel
theorem dL_shared_6 : decode cL_shared 6 = .ok (.iload_n 3, 1) := by decide +kernel
theorem dL_shared_7 : decode cL_shared 7 = .ok (.invokevirtual 80, 3) := by decide +kernel
theorem dL_shared_10 : decode cL_shared 10 = .ok (.i2l, 1) := by decide +kernel
theorem dL_shared_11 : decode cL_shared 11 = .ok (.lastore, 1) := by decide +kernel
theorem dL_shared_12 : decode cL_shared 12 = .ok (.goto 7, 3) := by decide +kernel
theorem dL_shared_15 : decode cL_shared 15 = .ok (.astore 5, 2) := by decide +kernel
theorem dL_shared_17 : decode cL_shared 17 = .ok (.iconst 1, 1) := by decide +kernel
theorem dL_shared_18 : decode cL_shared 18 = .ok (.ireturn, 1) := by decide +kernel
theorem dL_shared_19 : decode cL_shared 19 = .ok (.iconst 0, 1) := by decide +kernel
theorem dL_shared_20 : decode cL_shared 20 = .ok (.ireturn, 1) := by decide +kernel
theorem dL_kin_0 : decode cL_kin 0 = .ok (.aload_n 3, 1) := by decide +kernel
theorem dL_kin_1 : decode cL_kin 1 = .ok (.iconst 0, 1) := by decide +kernel
theorem dL_kin_2 : decode cL_kin 2 = .ok (.aload_n 0, 1) := by decide +kernel
theorem dL_kin_3 : decode cL_kin 3 = .ok (.iload_n 1, 1) := by decide +kernel
theorem dL_kin_4 : decode cL_kin 4 = .ok (.iload_n 2, 1) := by decide +kernel
theorem dL_kin_5 : decode cL_kin 5 = .ok (.invokevirtual 83, 3) := by decide +kernel
theorem dL_kin_8 : decode cL_kin 8 = .ok (.i2l, 1) := by decide +kernel
theorem dL_kin_9 : decode cL_kin 9 = .ok (.lastore, 1) := by decide +kernel
theorem dL_kin_10 : decode cL_kin 10 = .ok (.goto 7, 3) := by decide +kernel
theorem dL_kin_13 : decode cL_kin 13 = .ok (.astore 4, 2) := by decide +kernel
theorem dL_kin_15 : decode cL_kin 15 = .ok (.iconst 1, 1) := by decide +kernel
theorem dL_kin_16 : decode cL_kin 16 = .ok (.ireturn, 1) := by decide +kernel
theorem dL_kin_17 : decode cL_kin 17 = .ok (.iconst 0, 1) := by decide +kernel
theorem dL_kin_18 : decode cL_kin 18 = .ok (.ireturn, 1) := by decide +kernel
theorem dL_date_0 : decode cL_date 0 = .ok (.aload_n 3, 1) := by decide +kernel
theorem dL_date_1 : decode cL_date 1 = .ok (.iconst 0, 1) := by decide +kernel
theorem dL_date_2 : decode cL_date 2 = .ok (.aload_n 0, 1) := by decide +kernel
theorem dL_date_3 : decode cL_date 3 = .ok (.iload_n 1, 1) := by decide +kernel
theorem dL_date_4 : decode cL_date 4 = .ok (.iload_n 2, 1) := by decide +kernel
theorem dL_date_5 : decode cL_date 5 = .ok (.invokevirtual 86, 3) := by decide +kernel
theorem dL_date_8 : decode cL_date 8 = .ok (.i2l, 1) := by decide +kernel
theorem dL_date_9 : decode cL_date 9 = .ok (.lastore, 1) := by decide +kernel
theorem dL_date_10 : decode cL_date 10 = .ok (.goto 7, 3) := by decide +kernel
theorem dL_date_13 : decode cL_date 13 = .ok (.astore 4, 2) := by decide +kernel
theorem dL_date_15 : decode cL_date 15 = .ok (.iconst 1, 1) := by decide +kernel
theorem dL_date_16 : decode cL_date 16 = .ok (.ireturn, 1) := by decide +kernel
theorem dL_date_17 : decode cL_date 17 = .ok (.iconst 0, 1) := by decide +kernel
theorem dL_date_18 : decode cL_date 18 = .ok (.ireturn, 1) := by decide +kernel
theorem dL_law_0 : decode cL_law 0 = .ok (.new 8, 3) := by decide +kernel
theorem dL_law_3 : decode cL_law 3 = .ok (.dup, 1) := by decide +kernel
theorem dL_law_4 : decode cL_law 4 = .ok (.invokespecial 89, 3) := by decide +kernel
theorem dL_law_7 : decode cL_law 7 = .ok (.astore_n 1, 1) := by decide +kernel
theorem dL_law_8 : decode cL_law 8 = .ok (.new 90, 3) := by decide +kernel
theorem dL_law_11 : decode cL_law 11 = .ok (.dup, 1) := by decide +kernel
theorem dL_law_12 : decode cL_law 12 = .ok (.invokespecial 92, 3) := by decide +kernel
theorem dL_law_15 : decode cL_law 15 = .ok (.astore_n 2, 1) := by decide +kernel
theorem dL_law_16 : decode cL_law 16 = .ok (.iconst 1, 1) := by decide +kernel
theorem dL_law_17 : decode cL_law 17 = .ok (.newarray .long, 2) := by decide +kernel
theorem dL_law_19 : decode cL_law 19 = .ok (.astore_n 3, 1) := by decide +kernel
theorem dL_law_20 : decode cL_law 20 = .ok (.iconst 0, 1) := by decide +kernel
theorem dL_law_21 : decode cL_law 21 = .ok (.istore 4, 2) := by decide +kernel
theorem dL_law_23 : decode cL_law 23 = .ok (.iload 4, 2) := by decide +kernel
theorem dL_law_25 : decode cL_law 25 = .ok (.aload_n 0, 1) := by decide +kernel
theorem dL_law_26 : decode cL_law 26 = .ok (.arraylength, 1) := by decide +kernel
theorem dL_law_27 : decode cL_law 27 = .ok (.bipush 6, 2) := by decide +kernel
theorem dL_law_29 : decode cL_law 29 = .ok (.isub, 1) := by decide +kernel
theorem dL_law_30 : decode cL_law 30 = .ok (.if_icmp .gt 1811, 3) := by decide +kernel
theorem dL_law_33 : decode cL_law 33 = .ok (.aload_n 0, 1) := by decide +kernel
theorem dL_law_34 : decode cL_law 34 = .ok (.iload 4, 2) := by decide +kernel
theorem dL_law_36 : decode cL_law 36 = .ok (.iaload, 1) := by decide +kernel
theorem dL_law_37 : decode cL_law 37 = .ok (.bipush 31, 2) := by decide +kernel
theorem dL_law_39 : decode cL_law 39 = .ok (.iand, 1) := by decide +kernel
theorem dL_law_40 : decode cL_law 40 = .ok (.tableswitch 1795 0 21 #[104, 188, 256, 336, 404, 472, 532, 624, 716, 796, 856, 964, 1044, 1119, 1203, 1283, 1363, 1431, 1499, 1579, 1659, 1727], 104) := by decide +kernel
theorem dL_law_144 : decode cL_law 144 = .ok (.aload_n 1, 1) := by decide +kernel
theorem dL_law_145 : decode cL_law 145 = .ok (.aload_n 0, 1) := by decide +kernel
theorem dL_law_146 : decode cL_law 146 = .ok (.iload 4, 2) := by decide +kernel
theorem dL_law_148 : decode cL_law 148 = .ok (.iconst 1, 1) := by decide +kernel
theorem dL_law_149 : decode cL_law 149 = .ok (.iadd, 1) := by decide +kernel
theorem dL_law_150 : decode cL_law 150 = .ok (.iaload, 1) := by decide +kernel
theorem dL_law_151 : decode cL_law 151 = .ok (.aload_n 0, 1) := by decide +kernel
theorem dL_law_152 : decode cL_law 152 = .ok (.iload 4, 2) := by decide +kernel
theorem dL_law_154 : decode cL_law 154 = .ok (.iconst 2, 1) := by decide +kernel
theorem dL_law_155 : decode cL_law 155 = .ok (.iadd, 1) := by decide +kernel
theorem dL_law_156 : decode cL_law 156 = .ok (.iaload, 1) := by decide +kernel
theorem dL_law_157 : decode cL_law 157 = .ok (.aload_n 0, 1) := by decide +kernel
theorem dL_law_158 : decode cL_law 158 = .ok (.iload 4, 2) := by decide +kernel
theorem dL_law_160 : decode cL_law 160 = .ok (.iconst 3, 1) := by decide +kernel
theorem dL_law_161 : decode cL_law 161 = .ok (.iadd, 1) := by decide +kernel
theorem dL_law_162 : decode cL_law 162 = .ok (.iaload, 1) := by decide +kernel
theorem dL_law_163 : decode cL_law 163 = .ok (.aload_n 0, 1) := by decide +kernel
theorem dL_law_164 : decode cL_law 164 = .ok (.iload 4, 2) := by decide +kernel
theorem dL_law_166 : decode cL_law 166 = .ok (.iconst 4, 1) := by decide +kernel
theorem dL_law_167 : decode cL_law 167 = .ok (.iadd, 1) := by decide +kernel
theorem dL_law_168 : decode cL_law 168 = .ok (.iaload, 1) := by decide +kernel
theorem dL_law_169 : decode cL_law 169 = .ok (.aload_n 0, 1) := by decide +kernel
theorem dL_law_170 : decode cL_law 170 = .ok (.iload 4, 2) := by decide +kernel
theorem dL_law_172 : decode cL_law 172 = .ok (.iconst 5, 1) := by decide +kernel
theorem dL_law_173 : decode cL_law 173 = .ok (.iadd, 1) := by decide +kernel
theorem dL_law_174 : decode cL_law 174 = .ok (.iaload, 1) := by decide +kernel
theorem dL_law_175 : decode cL_law 175 = .ok (.invokestatic 93, 3) := by decide +kernel
theorem dL_law_178 : decode cL_law 178 = .ok (.istore 5, 2) := by decide +kernel
theorem dL_law_180 : decode cL_law 180 = .ok (.aload_n 2, 1) := by decide +kernel
theorem dL_law_181 : decode cL_law 181 = .ok (.aload_n 0, 1) := by decide +kernel
theorem dL_law_182 : decode cL_law 182 = .ok (.iload 4, 2) := by decide +kernel
theorem dL_law_184 : decode cL_law 184 = .ok (.iconst 1, 1) := by decide +kernel
theorem dL_law_185 : decode cL_law 185 = .ok (.iadd, 1) := by decide +kernel
theorem dL_law_186 : decode cL_law 186 = .ok (.iaload, 1) := by decide +kernel
theorem dL_law_187 : decode cL_law 187 = .ok (.aload_n 0, 1) := by decide +kernel
theorem dL_law_188 : decode cL_law 188 = .ok (.iload 4, 2) := by decide +kernel
theorem dL_law_190 : decode cL_law 190 = .ok (.iconst 2, 1) := by decide +kernel
theorem dL_law_191 : decode cL_law 191 = .ok (.iadd, 1) := by decide +kernel
theorem dL_law_192 : decode cL_law 192 = .ok (.iaload, 1) := by decide +kernel
theorem dL_law_193 : decode cL_law 193 = .ok (.aload_n 0, 1) := by decide +kernel
theorem dL_law_194 : decode cL_law 194 = .ok (.iload 4, 2) := by decide +kernel
theorem dL_law_196 : decode cL_law 196 = .ok (.iconst 3, 1) := by decide +kernel
theorem dL_law_197 : decode cL_law 197 = .ok (.iadd, 1) := by decide +kernel
theorem dL_law_198 : decode cL_law 198 = .ok (.iaload, 1) := by decide +kernel
theorem dL_law_199 : decode cL_law 199 = .ok (.aload_n 0, 1) := by decide +kernel
theorem dL_law_200 : decode cL_law 200 = .ok (.iload 4, 2) := by decide +kernel
theorem dL_law_202 : decode cL_law 202 = .ok (.iconst 4, 1) := by decide +kernel
theorem dL_law_203 : decode cL_law 203 = .ok (.iadd, 1) := by decide +kernel
theorem dL_law_204 : decode cL_law 204 = .ok (.iaload, 1) := by decide +kernel
theorem dL_law_205 : decode cL_law 205 = .ok (.aload_n 0, 1) := by decide +kernel
theorem dL_law_206 : decode cL_law 206 = .ok (.iload 4, 2) := by decide +kernel
theorem dL_law_208 : decode cL_law 208 = .ok (.iconst 5, 1) := by decide +kernel
theorem dL_law_209 : decode cL_law 209 = .ok (.iadd, 1) := by decide +kernel
theorem dL_law_210 : decode cL_law 210 = .ok (.iaload, 1) := by decide +kernel
theorem dL_law_211 : decode cL_law 211 = .ok (.invokevirtual 98, 3) := by decide +kernel
theorem dL_law_214 : decode cL_law 214 = .ok (.aload_n 2, 1) := by decide +kernel
theorem dL_law_215 : decode cL_law 215 = .ok (.invokevirtual 99, 3) := by decide +kernel
theorem dL_law_218 : decode cL_law 218 = .ok (.iload 5, 2) := by decide +kernel
theorem dL_law_220 : decode cL_law 220 = .ok (.if_icmp .eq 5, 3) := by decide +kernel
theorem dL_law_223 : decode cL_law 223 = .ok (.iconst 0, 1) := by decide +kernel
theorem dL_law_224 : decode cL_law 224 = .ok (.ireturn, 1) := by decide +kernel
theorem dL_law_225 : decode cL_law 225 = .ok (.goto 1610, 3) := by decide +kernel
theorem dL_law_228 : decode cL_law 228 = .ok (.aload_n 1, 1) := by decide +kernel
theorem dL_law_229 : decode cL_law 229 = .ok (.aload_n 0, 1) := by decide +kernel
theorem dL_law_230 : decode cL_law 230 = .ok (.iload 4, 2) := by decide +kernel
theorem dL_law_232 : decode cL_law 232 = .ok (.iconst 1, 1) := by decide +kernel
theorem dL_law_233 : decode cL_law 233 = .ok (.iadd, 1) := by decide +kernel
theorem dL_law_234 : decode cL_law 234 = .ok (.iaload, 1) := by decide +kernel
theorem dL_law_235 : decode cL_law 235 = .ok (.aload_n 0, 1) := by decide +kernel
theorem dL_law_236 : decode cL_law 236 = .ok (.iload 4, 2) := by decide +kernel
theorem dL_law_238 : decode cL_law 238 = .ok (.iconst 2, 1) := by decide +kernel
theorem dL_law_239 : decode cL_law 239 = .ok (.iadd, 1) := by decide +kernel
theorem dL_law_240 : decode cL_law 240 = .ok (.iaload, 1) := by decide +kernel
theorem dL_law_241 : decode cL_law 241 = .ok (.aload_n 3, 1) := by decide +kernel
theorem dL_law_242 : decode cL_law 242 = .ok (.invokestatic 103, 3) := by decide +kernel
theorem dL_law_245 : decode cL_law 245 = .ok (.istore 5, 2) := by decide +kernel
theorem dL_law_247 : decode cL_law 247 = .ok (.aload_n 2, 1) := by decide +kernel
theorem dL_law_248 : decode cL_law 248 = .ok (.aload_n 0, 1) := by decide +kernel
theorem dL_law_249 : decode cL_law 249 = .ok (.iload 4, 2) := by decide +kernel
theorem dL_law_251 : decode cL_law 251 = .ok (.iconst 1, 1) := by decide +kernel
theorem dL_law_252 : decode cL_law 252 = .ok (.iadd, 1) := by decide +kernel
theorem dL_law_253 : decode cL_law 253 = .ok (.iaload, 1) := by decide +kernel
theorem dL_law_254 : decode cL_law 254 = .ok (.aload_n 0, 1) := by decide +kernel
theorem dL_law_255 : decode cL_law 255 = .ok (.iload 4, 2) := by decide +kernel
theorem dL_law_257 : decode cL_law 257 = .ok (.iconst 2, 1) := by decide +kernel
theorem dL_law_258 : decode cL_law 258 = .ok (.iadd, 1) := by decide +kernel
theorem dL_law_259 : decode cL_law 259 = .ok (.iaload, 1) := by decide +kernel
theorem dL_law_260 : decode cL_law 260 = .ok (.invokevirtual 106, 3) := by decide +kernel
theorem dL_law_263 : decode cL_law 263 = .ok (.istore 6, 2) := by decide +kernel
theorem dL_law_265 : decode cL_law 265 = .ok (.aload_n 2, 1) := by decide +kernel
theorem dL_law_266 : decode cL_law 266 = .ok (.invokevirtual 99, 3) := by decide +kernel
theorem dL_law_269 : decode cL_law 269 = .ok (.iload 5, 2) := by decide +kernel
theorem dL_law_271 : decode cL_law 271 = .ok (.if_icmp .eq 5, 3) := by decide +kernel
theorem dL_law_274 : decode cL_law 274 = .ok (.iconst 0, 1) := by decide +kernel
theorem dL_law_275 : decode cL_law 275 = .ok (.ireturn, 1) := by decide +kernel
theorem dL_law_276 : decode cL_law 276 = .ok (.iload 5, 2) := by decide +kernel
theorem dL_law_278 : decode cL_law 278 = .ok (.ifCond .ne 15, 3) := by decide +kernel
theorem dL_law_281 : decode cL_law 281 = .ok (.aload_n 3, 1) := by decide +kernel
theorem dL_law_282 : decode cL_law 282 = .ok (.iconst 0, 1) := by decide +kernel
theorem dL_law_283 : decode cL_law 283 = .ok (.laload, 1) := by decide +kernel
theorem dL_law_284 : decode cL_law 284 = .ok (.iload 6, 2) := by decide +kernel
theorem dL_law_286 : decode cL_law 286 = .ok (.i2l, 1) := by decide +kernel
theorem dL_law_287 : decode cL_law 287 = .ok (.lcmp, 1) := by decide +kernel
theorem dL_law_288 : decode cL_law 288 = .ok (.ifCond .eq 5, 3) := by decide +kernel
theorem dL_law_291 : decode cL_law 291 = .ok (.iconst 0, 1) := by decide +kernel
theorem dL_law_292 : decode cL_law 292 = .ok (.ireturn, 1) := by decide +kernel
theorem dL_law_293 : decode cL_law 293 = .ok (.goto 1542, 3) := by decide +kernel
theorem dL_law_296 : decode cL_law 296 = .ok (.aload_n 1, 1) := by decide +kernel
theorem dL_law_297 : decode cL_law 297 = .ok (.aload_n 0, 1) := by decide +kernel
theorem dL_law_298 : decode cL_law 298 = .ok (.iload 4, 2) := by decide +kernel
theorem dL_law_300 : decode cL_law 300 = .ok (.iconst 1, 1) := by decide +kernel
theorem dL_law_301 : decode cL_law 301 = .ok (.iadd, 1) := by decide +kernel
theorem dL_law_302 : decode cL_law 302 = .ok (.iaload, 1) := by decide +kernel
theorem dL_law_303 : decode cL_law 303 = .ok (.aload_n 0, 1) := by decide +kernel
theorem dL_law_304 : decode cL_law 304 = .ok (.iload 4, 2) := by decide +kernel
theorem dL_law_306 : decode cL_law 306 = .ok (.iconst 2, 1) := by decide +kernel
theorem dL_law_307 : decode cL_law 307 = .ok (.iadd, 1) := by decide +kernel
theorem dL_law_308 : decode cL_law 308 = .ok (.iaload, 1) := by decide +kernel
theorem dL_law_309 : decode cL_law 309 = .ok (.aload_n 0, 1) := by decide +kernel
theorem dL_law_310 : decode cL_law 310 = .ok (.iload 4, 2) := by decide +kernel
theorem dL_law_312 : decode cL_law 312 = .ok (.iconst 3, 1) := by decide +kernel
theorem dL_law_313 : decode cL_law 313 = .ok (.iadd, 1) := by decide +kernel
theorem dL_law_314 : decode cL_law 314 = .ok (.iaload, 1) := by decide +kernel
theorem dL_law_315 : decode cL_law 315 = .ok (.aload_n 3, 1) := by decide +kernel
theorem dL_law_316 : decode cL_law 316 = .ok (.invokestatic 107, 3) := by decide +kernel
theorem dL_law_319 : decode cL_law 319 = .ok (.istore 5, 2) := by decide +kernel
theorem dL_law_321 : decode cL_law 321 = .ok (.aload_n 2, 1) := by decide +kernel
theorem dL_law_322 : decode cL_law 322 = .ok (.aload_n 0, 1) := by decide +kernel
theorem dL_law_323 : decode cL_law 323 = .ok (.iload 4, 2) := by decide +kernel
theorem dL_law_325 : decode cL_law 325 = .ok (.iconst 1, 1) := by decide +kernel
theorem dL_law_326 : decode cL_law 326 = .ok (.iadd, 1) := by decide +kernel
theorem dL_law_327 : decode cL_law 327 = .ok (.iaload, 1) := by decide +kernel
theorem dL_law_328 : decode cL_law 328 = .ok (.aload_n 0, 1) := by decide +kernel
theorem dL_law_329 : decode cL_law 329 = .ok (.iload 4, 2) := by decide +kernel
theorem dL_law_331 : decode cL_law 331 = .ok (.iconst 2, 1) := by decide +kernel
theorem dL_law_332 : decode cL_law 332 = .ok (.iadd, 1) := by decide +kernel
theorem dL_law_333 : decode cL_law 333 = .ok (.iaload, 1) := by decide +kernel
theorem dL_law_334 : decode cL_law 334 = .ok (.aload_n 0, 1) := by decide +kernel
theorem dL_law_335 : decode cL_law 335 = .ok (.iload 4, 2) := by decide +kernel
theorem dL_law_337 : decode cL_law 337 = .ok (.iconst 3, 1) := by decide +kernel
theorem dL_law_338 : decode cL_law 338 = .ok (.iadd, 1) := by decide +kernel
theorem dL_law_339 : decode cL_law 339 = .ok (.iaload, 1) := by decide +kernel
theorem dL_law_340 : decode cL_law 340 = .ok (.invokevirtual 110, 3) := by decide +kernel
theorem dL_law_343 : decode cL_law 343 = .ok (.istore 6, 2) := by decide +kernel
theorem dL_law_345 : decode cL_law 345 = .ok (.aload_n 2, 1) := by decide +kernel
theorem dL_law_346 : decode cL_law 346 = .ok (.invokevirtual 99, 3) := by decide +kernel
theorem dL_law_349 : decode cL_law 349 = .ok (.iload 5, 2) := by decide +kernel
theorem dL_law_351 : decode cL_law 351 = .ok (.if_icmp .eq 5, 3) := by decide +kernel
theorem dL_law_354 : decode cL_law 354 = .ok (.iconst 0, 1) := by decide +kernel
theorem dL_law_355 : decode cL_law 355 = .ok (.ireturn, 1) := by decide +kernel
theorem dL_law_356 : decode cL_law 356 = .ok (.iload 5, 2) := by decide +kernel
theorem dL_law_358 : decode cL_law 358 = .ok (.ifCond .ne 15, 3) := by decide +kernel
theorem dL_law_361 : decode cL_law 361 = .ok (.aload_n 3, 1) := by decide +kernel
theorem dL_law_362 : decode cL_law 362 = .ok (.iconst 0, 1) := by decide +kernel
theorem dL_law_363 : decode cL_law 363 = .ok (.laload, 1) := by decide +kernel
theorem dL_law_364 : decode cL_law 364 = .ok (.iload 6, 2) := by decide +kernel
theorem dL_law_366 : decode cL_law 366 = .ok (.i2l, 1) := by decide +kernel
theorem dL_law_367 : decode cL_law 367 = .ok (.lcmp, 1) := by decide +kernel
theorem dL_law_368 : decode cL_law 368 = .ok (.ifCond .eq 5, 3) := by decide +kernel
theorem dL_law_371 : decode cL_law 371 = .ok (.iconst 0, 1) := by decide +kernel
theorem dL_law_372 : decode cL_law 372 = .ok (.ireturn, 1) := by decide +kernel
theorem dL_law_373 : decode cL_law 373 = .ok (.goto 1462, 3) := by decide +kernel
theorem dL_law_376 : decode cL_law 376 = .ok (.aload_n 1, 1) := by decide +kernel
theorem dL_law_377 : decode cL_law 377 = .ok (.aload_n 0, 1) := by decide +kernel
theorem dL_law_378 : decode cL_law 378 = .ok (.iload 4, 2) := by decide +kernel
theorem dL_law_380 : decode cL_law 380 = .ok (.iconst 1, 1) := by decide +kernel
theorem dL_law_381 : decode cL_law 381 = .ok (.iadd, 1) := by decide +kernel
theorem dL_law_382 : decode cL_law 382 = .ok (.iaload, 1) := by decide +kernel
theorem dL_law_383 : decode cL_law 383 = .ok (.aload_n 0, 1) := by decide +kernel
theorem dL_law_384 : decode cL_law 384 = .ok (.iload 4, 2) := by decide +kernel
theorem dL_law_386 : decode cL_law 386 = .ok (.iconst 2, 1) := by decide +kernel
theorem dL_law_387 : decode cL_law 387 = .ok (.iadd, 1) := by decide +kernel
theorem dL_law_388 : decode cL_law 388 = .ok (.iaload, 1) := by decide +kernel
theorem dL_law_389 : decode cL_law 389 = .ok (.aload_n 3, 1) := by decide +kernel
theorem dL_law_390 : decode cL_law 390 = .ok (.invokestatic 111, 3) := by decide +kernel
theorem dL_law_393 : decode cL_law 393 = .ok (.istore 5, 2) := by decide +kernel
theorem dL_law_395 : decode cL_law 395 = .ok (.aload_n 2, 1) := by decide +kernel
theorem dL_law_396 : decode cL_law 396 = .ok (.aload_n 0, 1) := by decide +kernel
theorem dL_law_397 : decode cL_law 397 = .ok (.iload 4, 2) := by decide +kernel
theorem dL_law_399 : decode cL_law 399 = .ok (.iconst 1, 1) := by decide +kernel
theorem dL_law_400 : decode cL_law 400 = .ok (.iadd, 1) := by decide +kernel
theorem dL_law_401 : decode cL_law 401 = .ok (.iaload, 1) := by decide +kernel
theorem dL_law_402 : decode cL_law 402 = .ok (.aload_n 0, 1) := by decide +kernel
theorem dL_law_403 : decode cL_law 403 = .ok (.iload 4, 2) := by decide +kernel
theorem dL_law_405 : decode cL_law 405 = .ok (.iconst 2, 1) := by decide +kernel
theorem dL_law_406 : decode cL_law 406 = .ok (.iadd, 1) := by decide +kernel
theorem dL_law_407 : decode cL_law 407 = .ok (.iaload, 1) := by decide +kernel
theorem dL_law_408 : decode cL_law 408 = .ok (.invokevirtual 113, 3) := by decide +kernel
theorem dL_law_411 : decode cL_law 411 = .ok (.istore 6, 2) := by decide +kernel
theorem dL_law_413 : decode cL_law 413 = .ok (.aload_n 2, 1) := by decide +kernel
theorem dL_law_414 : decode cL_law 414 = .ok (.invokevirtual 99, 3) := by decide +kernel
theorem dL_law_417 : decode cL_law 417 = .ok (.iload 5, 2) := by decide +kernel
theorem dL_law_419 : decode cL_law 419 = .ok (.if_icmp .eq 5, 3) := by decide +kernel
theorem dL_law_422 : decode cL_law 422 = .ok (.iconst 0, 1) := by decide +kernel
theorem dL_law_423 : decode cL_law 423 = .ok (.ireturn, 1) := by decide +kernel
theorem dL_law_424 : decode cL_law 424 = .ok (.iload 5, 2) := by decide +kernel
theorem dL_law_426 : decode cL_law 426 = .ok (.ifCond .ne 15, 3) := by decide +kernel
theorem dL_law_429 : decode cL_law 429 = .ok (.aload_n 3, 1) := by decide +kernel
theorem dL_law_430 : decode cL_law 430 = .ok (.iconst 0, 1) := by decide +kernel
theorem dL_law_431 : decode cL_law 431 = .ok (.laload, 1) := by decide +kernel
theorem dL_law_432 : decode cL_law 432 = .ok (.iload 6, 2) := by decide +kernel
theorem dL_law_434 : decode cL_law 434 = .ok (.i2l, 1) := by decide +kernel
theorem dL_law_435 : decode cL_law 435 = .ok (.lcmp, 1) := by decide +kernel
theorem dL_law_436 : decode cL_law 436 = .ok (.ifCond .eq 5, 3) := by decide +kernel
theorem dL_law_439 : decode cL_law 439 = .ok (.iconst 0, 1) := by decide +kernel
theorem dL_law_440 : decode cL_law 440 = .ok (.ireturn, 1) := by decide +kernel
theorem dL_law_441 : decode cL_law 441 = .ok (.goto 1394, 3) := by decide +kernel
theorem dL_law_444 : decode cL_law 444 = .ok (.aload_n 1, 1) := by decide +kernel
theorem dL_law_445 : decode cL_law 445 = .ok (.aload_n 0, 1) := by decide +kernel
theorem dL_law_446 : decode cL_law 446 = .ok (.iload 4, 2) := by decide +kernel
theorem dL_law_448 : decode cL_law 448 = .ok (.iconst 1, 1) := by decide +kernel
theorem dL_law_449 : decode cL_law 449 = .ok (.iadd, 1) := by decide +kernel
theorem dL_law_450 : decode cL_law 450 = .ok (.iaload, 1) := by decide +kernel
theorem dL_law_451 : decode cL_law 451 = .ok (.aload_n 0, 1) := by decide +kernel
theorem dL_law_452 : decode cL_law 452 = .ok (.iload 4, 2) := by decide +kernel
theorem dL_law_454 : decode cL_law 454 = .ok (.iconst 2, 1) := by decide +kernel
theorem dL_law_455 : decode cL_law 455 = .ok (.iadd, 1) := by decide +kernel
theorem dL_law_456 : decode cL_law 456 = .ok (.iaload, 1) := by decide +kernel
theorem dL_law_457 : decode cL_law 457 = .ok (.aload_n 3, 1) := by decide +kernel
theorem dL_law_458 : decode cL_law 458 = .ok (.invokestatic 114, 3) := by decide +kernel
theorem dL_law_461 : decode cL_law 461 = .ok (.istore 5, 2) := by decide +kernel
theorem dL_law_463 : decode cL_law 463 = .ok (.aload_n 2, 1) := by decide +kernel
theorem dL_law_464 : decode cL_law 464 = .ok (.aload_n 0, 1) := by decide +kernel
theorem dL_law_465 : decode cL_law 465 = .ok (.iload 4, 2) := by decide +kernel
theorem dL_law_467 : decode cL_law 467 = .ok (.iconst 1, 1) := by decide +kernel
theorem dL_law_468 : decode cL_law 468 = .ok (.iadd, 1) := by decide +kernel
theorem dL_law_469 : decode cL_law 469 = .ok (.iaload, 1) := by decide +kernel
theorem dL_law_470 : decode cL_law 470 = .ok (.aload_n 0, 1) := by decide +kernel
theorem dL_law_471 : decode cL_law 471 = .ok (.iload 4, 2) := by decide +kernel
theorem dL_law_473 : decode cL_law 473 = .ok (.iconst 2, 1) := by decide +kernel
theorem dL_law_474 : decode cL_law 474 = .ok (.iadd, 1) := by decide +kernel
theorem dL_law_475 : decode cL_law 475 = .ok (.iaload, 1) := by decide +kernel
theorem dL_law_476 : decode cL_law 476 = .ok (.invokevirtual 116, 3) := by decide +kernel
theorem dL_law_479 : decode cL_law 479 = .ok (.istore 6, 2) := by decide +kernel
theorem dL_law_481 : decode cL_law 481 = .ok (.aload_n 2, 1) := by decide +kernel
theorem dL_law_482 : decode cL_law 482 = .ok (.invokevirtual 99, 3) := by decide +kernel
theorem dL_law_485 : decode cL_law 485 = .ok (.iload 5, 2) := by decide +kernel
theorem dL_law_487 : decode cL_law 487 = .ok (.if_icmp .eq 5, 3) := by decide +kernel
theorem dL_law_490 : decode cL_law 490 = .ok (.iconst 0, 1) := by decide +kernel
theorem dL_law_491 : decode cL_law 491 = .ok (.ireturn, 1) := by decide +kernel
theorem dL_law_492 : decode cL_law 492 = .ok (.iload 5, 2) := by decide +kernel
theorem dL_law_494 : decode cL_law 494 = .ok (.ifCond .ne 15, 3) := by decide +kernel
theorem dL_law_497 : decode cL_law 497 = .ok (.aload_n 3, 1) := by decide +kernel
theorem dL_law_498 : decode cL_law 498 = .ok (.iconst 0, 1) := by decide +kernel
theorem dL_law_499 : decode cL_law 499 = .ok (.laload, 1) := by decide +kernel
theorem dL_law_500 : decode cL_law 500 = .ok (.iload 6, 2) := by decide +kernel
theorem dL_law_502 : decode cL_law 502 = .ok (.i2l, 1) := by decide +kernel
theorem dL_law_503 : decode cL_law 503 = .ok (.lcmp, 1) := by decide +kernel
theorem dL_law_504 : decode cL_law 504 = .ok (.ifCond .eq 5, 3) := by decide +kernel
theorem dL_law_507 : decode cL_law 507 = .ok (.iconst 0, 1) := by decide +kernel
theorem dL_law_508 : decode cL_law 508 = .ok (.ireturn, 1) := by decide +kernel
theorem dL_law_509 : decode cL_law 509 = .ok (.goto 1326, 3) := by decide +kernel
theorem dL_law_512 : decode cL_law 512 = .ok (.aload_n 1, 1) := by decide +kernel
theorem dL_law_513 : decode cL_law 513 = .ok (.aload_n 0, 1) := by decide +kernel
theorem dL_law_514 : decode cL_law 514 = .ok (.iload 4, 2) := by decide +kernel
theorem dL_law_516 : decode cL_law 516 = .ok (.iconst 1, 1) := by decide +kernel
theorem dL_law_517 : decode cL_law 517 = .ok (.iadd, 1) := by decide +kernel
theorem dL_law_518 : decode cL_law 518 = .ok (.iaload, 1) := by decide +kernel
theorem dL_law_519 : decode cL_law 519 = .ok (.aload_n 0, 1) := by decide +kernel
theorem dL_law_520 : decode cL_law 520 = .ok (.iload 4, 2) := by decide +kernel
theorem dL_law_522 : decode cL_law 522 = .ok (.iconst 2, 1) := by decide +kernel
theorem dL_law_523 : decode cL_law 523 = .ok (.iadd, 1) := by decide +kernel
theorem dL_law_524 : decode cL_law 524 = .ok (.iaload, 1) := by decide +kernel
theorem dL_law_525 : decode cL_law 525 = .ok (.aload_n 0, 1) := by decide +kernel
theorem dL_law_526 : decode cL_law 526 = .ok (.iload 4, 2) := by decide +kernel
theorem dL_law_528 : decode cL_law 528 = .ok (.iconst 3, 1) := by decide +kernel
theorem dL_law_529 : decode cL_law 529 = .ok (.iadd, 1) := by decide +kernel
theorem dL_law_530 : decode cL_law 530 = .ok (.iaload, 1) := by decide +kernel
theorem dL_law_531 : decode cL_law 531 = .ok (.invokestatic 117, 3) := by decide +kernel
theorem dL_law_534 : decode cL_law 534 = .ok (.istore 5, 2) := by decide +kernel
theorem dL_law_536 : decode cL_law 536 = .ok (.aload_n 2, 1) := by decide +kernel
theorem dL_law_537 : decode cL_law 537 = .ok (.aload_n 0, 1) := by decide +kernel
theorem dL_law_538 : decode cL_law 538 = .ok (.iload 4, 2) := by decide +kernel
theorem dL_law_540 : decode cL_law 540 = .ok (.iconst 1, 1) := by decide +kernel
theorem dL_law_541 : decode cL_law 541 = .ok (.iadd, 1) := by decide +kernel
theorem dL_law_542 : decode cL_law 542 = .ok (.iaload, 1) := by decide +kernel
theorem dL_law_543 : decode cL_law 543 = .ok (.aload_n 0, 1) := by decide +kernel
theorem dL_law_544 : decode cL_law 544 = .ok (.iload 4, 2) := by decide +kernel
theorem dL_law_546 : decode cL_law 546 = .ok (.iconst 2, 1) := by decide +kernel
theorem dL_law_547 : decode cL_law 547 = .ok (.iadd, 1) := by decide +kernel
theorem dL_law_548 : decode cL_law 548 = .ok (.iaload, 1) := by decide +kernel
theorem dL_law_549 : decode cL_law 549 = .ok (.aload_n 0, 1) := by decide +kernel
theorem dL_law_550 : decode cL_law 550 = .ok (.iload 4, 2) := by decide +kernel
theorem dL_law_552 : decode cL_law 552 = .ok (.iconst 3, 1) := by decide +kernel
theorem dL_law_553 : decode cL_law 553 = .ok (.iadd, 1) := by decide +kernel
theorem dL_law_554 : decode cL_law 554 = .ok (.iaload, 1) := by decide +kernel
theorem dL_law_555 : decode cL_law 555 = .ok (.invokevirtual 120, 3) := by decide +kernel
theorem dL_law_558 : decode cL_law 558 = .ok (.aload_n 2, 1) := by decide +kernel
theorem dL_law_559 : decode cL_law 559 = .ok (.invokevirtual 99, 3) := by decide +kernel
theorem dL_law_562 : decode cL_law 562 = .ok (.iload 5, 2) := by decide +kernel
theorem dL_law_564 : decode cL_law 564 = .ok (.if_icmp .eq 5, 3) := by decide +kernel
theorem dL_law_567 : decode cL_law 567 = .ok (.iconst 0, 1) := by decide +kernel
theorem dL_law_568 : decode cL_law 568 = .ok (.ireturn, 1) := by decide +kernel
theorem dL_law_569 : decode cL_law 569 = .ok (.goto 1266, 3) := by decide +kernel
theorem dL_law_572 : decode cL_law 572 = .ok (.aload_n 1, 1) := by decide +kernel
theorem dL_law_573 : decode cL_law 573 = .ok (.aload_n 0, 1) := by decide +kernel
theorem dL_law_574 : decode cL_law 574 = .ok (.iload 4, 2) := by decide +kernel
theorem dL_law_576 : decode cL_law 576 = .ok (.iconst 1, 1) := by decide +kernel
theorem dL_law_577 : decode cL_law 577 = .ok (.iadd, 1) := by decide +kernel
theorem dL_law_578 : decode cL_law 578 = .ok (.iaload, 1) := by decide +kernel
theorem dL_law_579 : decode cL_law 579 = .ok (.aload_n 0, 1) := by decide +kernel
theorem dL_law_580 : decode cL_law 580 = .ok (.iload 4, 2) := by decide +kernel
theorem dL_law_582 : decode cL_law 582 = .ok (.iconst 2, 1) := by decide +kernel
theorem dL_law_583 : decode cL_law 583 = .ok (.iadd, 1) := by decide +kernel
theorem dL_law_584 : decode cL_law 584 = .ok (.iaload, 1) := by decide +kernel
theorem dL_law_585 : decode cL_law 585 = .ok (.aload_n 0, 1) := by decide +kernel
theorem dL_law_586 : decode cL_law 586 = .ok (.iload 4, 2) := by decide +kernel
theorem dL_law_588 : decode cL_law 588 = .ok (.iconst 3, 1) := by decide +kernel
theorem dL_law_589 : decode cL_law 589 = .ok (.iadd, 1) := by decide +kernel
theorem dL_law_590 : decode cL_law 590 = .ok (.iaload, 1) := by decide +kernel
theorem dL_law_591 : decode cL_law 591 = .ok (.aload_n 0, 1) := by decide +kernel
theorem dL_law_592 : decode cL_law 592 = .ok (.iload 4, 2) := by decide +kernel
theorem dL_law_594 : decode cL_law 594 = .ok (.iconst 4, 1) := by decide +kernel
theorem dL_law_595 : decode cL_law 595 = .ok (.iadd, 1) := by decide +kernel
theorem dL_law_596 : decode cL_law 596 = .ok (.iaload, 1) := by decide +kernel
theorem dL_law_597 : decode cL_law 597 = .ok (.aload_n 3, 1) := by decide +kernel
theorem dL_law_598 : decode cL_law 598 = .ok (.invokestatic 121, 3) := by decide +kernel
theorem dL_law_601 : decode cL_law 601 = .ok (.istore 5, 2) := by decide +kernel
theorem dL_law_603 : decode cL_law 603 = .ok (.aload_n 2, 1) := by decide +kernel
theorem dL_law_604 : decode cL_law 604 = .ok (.aload_n 0, 1) := by decide +kernel
theorem dL_law_605 : decode cL_law 605 = .ok (.iload 4, 2) := by decide +kernel
theorem dL_law_607 : decode cL_law 607 = .ok (.iconst 1, 1) := by decide +kernel
theorem dL_law_608 : decode cL_law 608 = .ok (.iadd, 1) := by decide +kernel
theorem dL_law_609 : decode cL_law 609 = .ok (.iaload, 1) := by decide +kernel
theorem dL_law_610 : decode cL_law 610 = .ok (.aload_n 0, 1) := by decide +kernel
theorem dL_law_611 : decode cL_law 611 = .ok (.iload 4, 2) := by decide +kernel
theorem dL_law_613 : decode cL_law 613 = .ok (.iconst 2, 1) := by decide +kernel
theorem dL_law_614 : decode cL_law 614 = .ok (.iadd, 1) := by decide +kernel
theorem dL_law_615 : decode cL_law 615 = .ok (.iaload, 1) := by decide +kernel
theorem dL_law_616 : decode cL_law 616 = .ok (.aload_n 0, 1) := by decide +kernel
theorem dL_law_617 : decode cL_law 617 = .ok (.iload 4, 2) := by decide +kernel
theorem dL_law_619 : decode cL_law 619 = .ok (.iconst 3, 1) := by decide +kernel
theorem dL_law_620 : decode cL_law 620 = .ok (.iadd, 1) := by decide +kernel
theorem dL_law_621 : decode cL_law 621 = .ok (.iaload, 1) := by decide +kernel
theorem dL_law_622 : decode cL_law 622 = .ok (.aload_n 0, 1) := by decide +kernel
theorem dL_law_623 : decode cL_law 623 = .ok (.iload 4, 2) := by decide +kernel
theorem dL_law_625 : decode cL_law 625 = .ok (.iconst 4, 1) := by decide +kernel
theorem dL_law_626 : decode cL_law 626 = .ok (.iadd, 1) := by decide +kernel
theorem dL_law_627 : decode cL_law 627 = .ok (.iaload, 1) := by decide +kernel
theorem dL_law_628 : decode cL_law 628 = .ok (.invokevirtual 124, 3) := by decide +kernel
theorem dL_law_631 : decode cL_law 631 = .ok (.istore 6, 2) := by decide +kernel
theorem dL_law_633 : decode cL_law 633 = .ok (.aload_n 2, 1) := by decide +kernel
theorem dL_law_634 : decode cL_law 634 = .ok (.invokevirtual 99, 3) := by decide +kernel
theorem dL_law_637 : decode cL_law 637 = .ok (.iload 5, 2) := by decide +kernel
theorem dL_law_639 : decode cL_law 639 = .ok (.if_icmp .eq 5, 3) := by decide +kernel
theorem dL_law_642 : decode cL_law 642 = .ok (.iconst 0, 1) := by decide +kernel
theorem dL_law_643 : decode cL_law 643 = .ok (.ireturn, 1) := by decide +kernel
theorem dL_law_644 : decode cL_law 644 = .ok (.iload 5, 2) := by decide +kernel
theorem dL_law_646 : decode cL_law 646 = .ok (.ifCond .ne 15, 3) := by decide +kernel
theorem dL_law_649 : decode cL_law 649 = .ok (.aload_n 3, 1) := by decide +kernel
theorem dL_law_650 : decode cL_law 650 = .ok (.iconst 0, 1) := by decide +kernel
theorem dL_law_651 : decode cL_law 651 = .ok (.laload, 1) := by decide +kernel
theorem dL_law_652 : decode cL_law 652 = .ok (.iload 6, 2) := by decide +kernel
theorem dL_law_654 : decode cL_law 654 = .ok (.i2l, 1) := by decide +kernel
theorem dL_law_655 : decode cL_law 655 = .ok (.lcmp, 1) := by decide +kernel
theorem dL_law_656 : decode cL_law 656 = .ok (.ifCond .eq 5, 3) := by decide +kernel
theorem dL_law_659 : decode cL_law 659 = .ok (.iconst 0, 1) := by decide +kernel
theorem dL_law_660 : decode cL_law 660 = .ok (.ireturn, 1) := by decide +kernel
theorem dL_law_661 : decode cL_law 661 = .ok (.goto 1174, 3) := by decide +kernel
theorem dL_law_664 : decode cL_law 664 = .ok (.aload_n 1, 1) := by decide +kernel
theorem dL_law_665 : decode cL_law 665 = .ok (.aload_n 0, 1) := by decide +kernel
theorem dL_law_666 : decode cL_law 666 = .ok (.iload 4, 2) := by decide +kernel
theorem dL_law_668 : decode cL_law 668 = .ok (.iconst 1, 1) := by decide +kernel
theorem dL_law_669 : decode cL_law 669 = .ok (.iadd, 1) := by decide +kernel
theorem dL_law_670 : decode cL_law 670 = .ok (.iaload, 1) := by decide +kernel
theorem dL_law_671 : decode cL_law 671 = .ok (.aload_n 0, 1) := by decide +kernel
theorem dL_law_672 : decode cL_law 672 = .ok (.iload 4, 2) := by decide +kernel
theorem dL_law_674 : decode cL_law 674 = .ok (.iconst 2, 1) := by decide +kernel
theorem dL_law_675 : decode cL_law 675 = .ok (.iadd, 1) := by decide +kernel
theorem dL_law_676 : decode cL_law 676 = .ok (.iaload, 1) := by decide +kernel
theorem dL_law_677 : decode cL_law 677 = .ok (.aload_n 0, 1) := by decide +kernel
theorem dL_law_678 : decode cL_law 678 = .ok (.iload 4, 2) := by decide +kernel
theorem dL_law_680 : decode cL_law 680 = .ok (.iconst 3, 1) := by decide +kernel
theorem dL_law_681 : decode cL_law 681 = .ok (.iadd, 1) := by decide +kernel
theorem dL_law_682 : decode cL_law 682 = .ok (.iaload, 1) := by decide +kernel
theorem dL_law_683 : decode cL_law 683 = .ok (.aload_n 0, 1) := by decide +kernel
theorem dL_law_684 : decode cL_law 684 = .ok (.iload 4, 2) := by decide +kernel
theorem dL_law_686 : decode cL_law 686 = .ok (.iconst 4, 1) := by decide +kernel
theorem dL_law_687 : decode cL_law 687 = .ok (.iadd, 1) := by decide +kernel
theorem dL_law_688 : decode cL_law 688 = .ok (.iaload, 1) := by decide +kernel
theorem dL_law_689 : decode cL_law 689 = .ok (.aload_n 3, 1) := by decide +kernel
theorem dL_law_690 : decode cL_law 690 = .ok (.invokestatic 125, 3) := by decide +kernel
theorem dL_law_693 : decode cL_law 693 = .ok (.istore 5, 2) := by decide +kernel
theorem dL_law_695 : decode cL_law 695 = .ok (.aload_n 2, 1) := by decide +kernel
theorem dL_law_696 : decode cL_law 696 = .ok (.aload_n 0, 1) := by decide +kernel
theorem dL_law_697 : decode cL_law 697 = .ok (.iload 4, 2) := by decide +kernel
theorem dL_law_699 : decode cL_law 699 = .ok (.iconst 1, 1) := by decide +kernel
theorem dL_law_700 : decode cL_law 700 = .ok (.iadd, 1) := by decide +kernel
theorem dL_law_701 : decode cL_law 701 = .ok (.iaload, 1) := by decide +kernel
theorem dL_law_702 : decode cL_law 702 = .ok (.aload_n 0, 1) := by decide +kernel
theorem dL_law_703 : decode cL_law 703 = .ok (.iload 4, 2) := by decide +kernel
theorem dL_law_705 : decode cL_law 705 = .ok (.iconst 2, 1) := by decide +kernel
theorem dL_law_706 : decode cL_law 706 = .ok (.iadd, 1) := by decide +kernel
theorem dL_law_707 : decode cL_law 707 = .ok (.iaload, 1) := by decide +kernel
theorem dL_law_708 : decode cL_law 708 = .ok (.aload_n 0, 1) := by decide +kernel
theorem dL_law_709 : decode cL_law 709 = .ok (.iload 4, 2) := by decide +kernel
theorem dL_law_711 : decode cL_law 711 = .ok (.iconst 3, 1) := by decide +kernel
theorem dL_law_712 : decode cL_law 712 = .ok (.iadd, 1) := by decide +kernel
theorem dL_law_713 : decode cL_law 713 = .ok (.iaload, 1) := by decide +kernel
theorem dL_law_714 : decode cL_law 714 = .ok (.aload_n 0, 1) := by decide +kernel
theorem dL_law_715 : decode cL_law 715 = .ok (.iload 4, 2) := by decide +kernel
theorem dL_law_717 : decode cL_law 717 = .ok (.iconst 4, 1) := by decide +kernel
theorem dL_law_718 : decode cL_law 718 = .ok (.iadd, 1) := by decide +kernel
theorem dL_law_719 : decode cL_law 719 = .ok (.iaload, 1) := by decide +kernel
theorem dL_law_720 : decode cL_law 720 = .ok (.invokevirtual 127, 3) := by decide +kernel
theorem dL_law_723 : decode cL_law 723 = .ok (.istore 6, 2) := by decide +kernel
theorem dL_law_725 : decode cL_law 725 = .ok (.aload_n 2, 1) := by decide +kernel
theorem dL_law_726 : decode cL_law 726 = .ok (.invokevirtual 99, 3) := by decide +kernel
theorem dL_law_729 : decode cL_law 729 = .ok (.iload 5, 2) := by decide +kernel
theorem dL_law_731 : decode cL_law 731 = .ok (.if_icmp .eq 5, 3) := by decide +kernel
theorem dL_law_734 : decode cL_law 734 = .ok (.iconst 0, 1) := by decide +kernel
theorem dL_law_735 : decode cL_law 735 = .ok (.ireturn, 1) := by decide +kernel
theorem dL_law_736 : decode cL_law 736 = .ok (.iload 5, 2) := by decide +kernel
theorem dL_law_738 : decode cL_law 738 = .ok (.ifCond .ne 15, 3) := by decide +kernel
theorem dL_law_741 : decode cL_law 741 = .ok (.aload_n 3, 1) := by decide +kernel
theorem dL_law_742 : decode cL_law 742 = .ok (.iconst 0, 1) := by decide +kernel
theorem dL_law_743 : decode cL_law 743 = .ok (.laload, 1) := by decide +kernel
theorem dL_law_744 : decode cL_law 744 = .ok (.iload 6, 2) := by decide +kernel
theorem dL_law_746 : decode cL_law 746 = .ok (.i2l, 1) := by decide +kernel
theorem dL_law_747 : decode cL_law 747 = .ok (.lcmp, 1) := by decide +kernel
theorem dL_law_748 : decode cL_law 748 = .ok (.ifCond .eq 5, 3) := by decide +kernel
theorem dL_law_751 : decode cL_law 751 = .ok (.iconst 0, 1) := by decide +kernel
theorem dL_law_752 : decode cL_law 752 = .ok (.ireturn, 1) := by decide +kernel
theorem dL_law_753 : decode cL_law 753 = .ok (.goto 1082, 3) := by decide +kernel
theorem dL_law_756 : decode cL_law 756 = .ok (.aload_n 1, 1) := by decide +kernel
theorem dL_law_757 : decode cL_law 757 = .ok (.aload_n 0, 1) := by decide +kernel
theorem dL_law_758 : decode cL_law 758 = .ok (.iload 4, 2) := by decide +kernel
theorem dL_law_760 : decode cL_law 760 = .ok (.iconst 1, 1) := by decide +kernel
theorem dL_law_761 : decode cL_law 761 = .ok (.iadd, 1) := by decide +kernel
theorem dL_law_762 : decode cL_law 762 = .ok (.iaload, 1) := by decide +kernel
theorem dL_law_763 : decode cL_law 763 = .ok (.aload_n 0, 1) := by decide +kernel
theorem dL_law_764 : decode cL_law 764 = .ok (.iload 4, 2) := by decide +kernel
theorem dL_law_766 : decode cL_law 766 = .ok (.iconst 2, 1) := by decide +kernel
theorem dL_law_767 : decode cL_law 767 = .ok (.iadd, 1) := by decide +kernel
theorem dL_law_768 : decode cL_law 768 = .ok (.iaload, 1) := by decide +kernel
theorem dL_law_769 : decode cL_law 769 = .ok (.aload_n 0, 1) := by decide +kernel
theorem dL_law_770 : decode cL_law 770 = .ok (.iload 4, 2) := by decide +kernel
theorem dL_law_772 : decode cL_law 772 = .ok (.iconst 3, 1) := by decide +kernel
theorem dL_law_773 : decode cL_law 773 = .ok (.iadd, 1) := by decide +kernel
theorem dL_law_774 : decode cL_law 774 = .ok (.iaload, 1) := by decide +kernel
theorem dL_law_775 : decode cL_law 775 = .ok (.aload_n 3, 1) := by decide +kernel
theorem dL_law_776 : decode cL_law 776 = .ok (.invokestatic 128, 3) := by decide +kernel
theorem dL_law_779 : decode cL_law 779 = .ok (.istore 5, 2) := by decide +kernel
theorem dL_law_781 : decode cL_law 781 = .ok (.aload_n 2, 1) := by decide +kernel
theorem dL_law_782 : decode cL_law 782 = .ok (.aload_n 0, 1) := by decide +kernel
theorem dL_law_783 : decode cL_law 783 = .ok (.iload 4, 2) := by decide +kernel
theorem dL_law_785 : decode cL_law 785 = .ok (.iconst 1, 1) := by decide +kernel
theorem dL_law_786 : decode cL_law 786 = .ok (.iadd, 1) := by decide +kernel
theorem dL_law_787 : decode cL_law 787 = .ok (.iaload, 1) := by decide +kernel
theorem dL_law_788 : decode cL_law 788 = .ok (.aload_n 0, 1) := by decide +kernel
theorem dL_law_789 : decode cL_law 789 = .ok (.iload 4, 2) := by decide +kernel
theorem dL_law_791 : decode cL_law 791 = .ok (.iconst 2, 1) := by decide +kernel
theorem dL_law_792 : decode cL_law 792 = .ok (.iadd, 1) := by decide +kernel
theorem dL_law_793 : decode cL_law 793 = .ok (.iaload, 1) := by decide +kernel
theorem dL_law_794 : decode cL_law 794 = .ok (.aload_n 0, 1) := by decide +kernel
theorem dL_law_795 : decode cL_law 795 = .ok (.iload 4, 2) := by decide +kernel
theorem dL_law_797 : decode cL_law 797 = .ok (.iconst 3, 1) := by decide +kernel
theorem dL_law_798 : decode cL_law 798 = .ok (.iadd, 1) := by decide +kernel
theorem dL_law_799 : decode cL_law 799 = .ok (.iaload, 1) := by decide +kernel
theorem dL_law_800 : decode cL_law 800 = .ok (.invokevirtual 130, 3) := by decide +kernel
theorem dL_law_803 : decode cL_law 803 = .ok (.istore 6, 2) := by decide +kernel
theorem dL_law_805 : decode cL_law 805 = .ok (.aload_n 2, 1) := by decide +kernel
theorem dL_law_806 : decode cL_law 806 = .ok (.invokevirtual 99, 3) := by decide +kernel
theorem dL_law_809 : decode cL_law 809 = .ok (.iload 5, 2) := by decide +kernel
theorem dL_law_811 : decode cL_law 811 = .ok (.if_icmp .eq 5, 3) := by decide +kernel
theorem dL_law_814 : decode cL_law 814 = .ok (.iconst 0, 1) := by decide +kernel
theorem dL_law_815 : decode cL_law 815 = .ok (.ireturn, 1) := by decide +kernel
theorem dL_law_816 : decode cL_law 816 = .ok (.iload 5, 2) := by decide +kernel
theorem dL_law_818 : decode cL_law 818 = .ok (.ifCond .ne 15, 3) := by decide +kernel
theorem dL_law_821 : decode cL_law 821 = .ok (.aload_n 3, 1) := by decide +kernel
theorem dL_law_822 : decode cL_law 822 = .ok (.iconst 0, 1) := by decide +kernel
theorem dL_law_823 : decode cL_law 823 = .ok (.laload, 1) := by decide +kernel
theorem dL_law_824 : decode cL_law 824 = .ok (.iload 6, 2) := by decide +kernel
theorem dL_law_826 : decode cL_law 826 = .ok (.i2l, 1) := by decide +kernel
theorem dL_law_827 : decode cL_law 827 = .ok (.lcmp, 1) := by decide +kernel
theorem dL_law_828 : decode cL_law 828 = .ok (.ifCond .eq 5, 3) := by decide +kernel
theorem dL_law_831 : decode cL_law 831 = .ok (.iconst 0, 1) := by decide +kernel
theorem dL_law_832 : decode cL_law 832 = .ok (.ireturn, 1) := by decide +kernel
theorem dL_law_833 : decode cL_law 833 = .ok (.goto 1002, 3) := by decide +kernel
theorem dL_law_836 : decode cL_law 836 = .ok (.aload_n 1, 1) := by decide +kernel
theorem dL_law_837 : decode cL_law 837 = .ok (.aload_n 0, 1) := by decide +kernel
theorem dL_law_838 : decode cL_law 838 = .ok (.iload 4, 2) := by decide +kernel
theorem dL_law_840 : decode cL_law 840 = .ok (.iconst 1, 1) := by decide +kernel
theorem dL_law_841 : decode cL_law 841 = .ok (.iadd, 1) := by decide +kernel
theorem dL_law_842 : decode cL_law 842 = .ok (.iaload, 1) := by decide +kernel
theorem dL_law_843 : decode cL_law 843 = .ok (.aload_n 0, 1) := by decide +kernel
theorem dL_law_844 : decode cL_law 844 = .ok (.iload 4, 2) := by decide +kernel
theorem dL_law_846 : decode cL_law 846 = .ok (.iconst 2, 1) := by decide +kernel
theorem dL_law_847 : decode cL_law 847 = .ok (.iadd, 1) := by decide +kernel
theorem dL_law_848 : decode cL_law 848 = .ok (.iaload, 1) := by decide +kernel
theorem dL_law_849 : decode cL_law 849 = .ok (.aload_n 0, 1) := by decide +kernel
theorem dL_law_850 : decode cL_law 850 = .ok (.iload 4, 2) := by decide +kernel
theorem dL_law_852 : decode cL_law 852 = .ok (.iconst 3, 1) := by decide +kernel
theorem dL_law_853 : decode cL_law 853 = .ok (.iadd, 1) := by decide +kernel
theorem dL_law_854 : decode cL_law 854 = .ok (.iaload, 1) := by decide +kernel
theorem dL_law_855 : decode cL_law 855 = .ok (.invokestatic 131, 3) := by decide +kernel
theorem dL_law_858 : decode cL_law 858 = .ok (.istore 5, 2) := by decide +kernel
theorem dL_law_860 : decode cL_law 860 = .ok (.aload_n 2, 1) := by decide +kernel
theorem dL_law_861 : decode cL_law 861 = .ok (.aload_n 0, 1) := by decide +kernel
theorem dL_law_862 : decode cL_law 862 = .ok (.iload 4, 2) := by decide +kernel
theorem dL_law_864 : decode cL_law 864 = .ok (.iconst 1, 1) := by decide +kernel
theorem dL_law_865 : decode cL_law 865 = .ok (.iadd, 1) := by decide +kernel
theorem dL_law_866 : decode cL_law 866 = .ok (.iaload, 1) := by decide +kernel
theorem dL_law_867 : decode cL_law 867 = .ok (.aload_n 0, 1) := by decide +kernel
theorem dL_law_868 : decode cL_law 868 = .ok (.iload 4, 2) := by decide +kernel
theorem dL_law_870 : decode cL_law 870 = .ok (.iconst 2, 1) := by decide +kernel
theorem dL_law_871 : decode cL_law 871 = .ok (.iadd, 1) := by decide +kernel
theorem dL_law_872 : decode cL_law 872 = .ok (.iaload, 1) := by decide +kernel
theorem dL_law_873 : decode cL_law 873 = .ok (.aload_n 0, 1) := by decide +kernel
theorem dL_law_874 : decode cL_law 874 = .ok (.iload 4, 2) := by decide +kernel
theorem dL_law_876 : decode cL_law 876 = .ok (.iconst 3, 1) := by decide +kernel
theorem dL_law_877 : decode cL_law 877 = .ok (.iadd, 1) := by decide +kernel
theorem dL_law_878 : decode cL_law 878 = .ok (.iaload, 1) := by decide +kernel
theorem dL_law_879 : decode cL_law 879 = .ok (.invokevirtual 133, 3) := by decide +kernel
theorem dL_law_882 : decode cL_law 882 = .ok (.aload_n 2, 1) := by decide +kernel
theorem dL_law_883 : decode cL_law 883 = .ok (.invokevirtual 99, 3) := by decide +kernel
theorem dL_law_886 : decode cL_law 886 = .ok (.iload 5, 2) := by decide +kernel
theorem dL_law_888 : decode cL_law 888 = .ok (.if_icmp .eq 5, 3) := by decide +kernel
theorem dL_law_891 : decode cL_law 891 = .ok (.iconst 0, 1) := by decide +kernel
theorem dL_law_892 : decode cL_law 892 = .ok (.ireturn, 1) := by decide +kernel
theorem dL_law_893 : decode cL_law 893 = .ok (.goto 942, 3) := by decide +kernel
theorem dL_law_896 : decode cL_law 896 = .ok (.aload_n 1, 1) := by decide +kernel
theorem dL_law_897 : decode cL_law 897 = .ok (.aload_n 0, 1) := by decide +kernel
theorem dL_law_898 : decode cL_law 898 = .ok (.iload 4, 2) := by decide +kernel
theorem dL_law_900 : decode cL_law 900 = .ok (.iconst 1, 1) := by decide +kernel
theorem dL_law_901 : decode cL_law 901 = .ok (.iadd, 1) := by decide +kernel
theorem dL_law_902 : decode cL_law 902 = .ok (.iaload, 1) := by decide +kernel
theorem dL_law_903 : decode cL_law 903 = .ok (.aload_n 0, 1) := by decide +kernel
theorem dL_law_904 : decode cL_law 904 = .ok (.iload 4, 2) := by decide +kernel
theorem dL_law_906 : decode cL_law 906 = .ok (.iconst 2, 1) := by decide +kernel
theorem dL_law_907 : decode cL_law 907 = .ok (.iadd, 1) := by decide +kernel
theorem dL_law_908 : decode cL_law 908 = .ok (.iaload, 1) := by decide +kernel
theorem dL_law_909 : decode cL_law 909 = .ok (.aload_n 0, 1) := by decide +kernel
theorem dL_law_910 : decode cL_law 910 = .ok (.iload 4, 2) := by decide +kernel
theorem dL_law_912 : decode cL_law 912 = .ok (.iconst 3, 1) := by decide +kernel
theorem dL_law_913 : decode cL_law 913 = .ok (.iadd, 1) := by decide +kernel
theorem dL_law_914 : decode cL_law 914 = .ok (.iaload, 1) := by decide +kernel
theorem dL_law_915 : decode cL_law 915 = .ok (.aload_n 0, 1) := by decide +kernel
theorem dL_law_916 : decode cL_law 916 = .ok (.iload 4, 2) := by decide +kernel
theorem dL_law_918 : decode cL_law 918 = .ok (.iconst 4, 1) := by decide +kernel
theorem dL_law_919 : decode cL_law 919 = .ok (.iadd, 1) := by decide +kernel
theorem dL_law_920 : decode cL_law 920 = .ok (.iaload, 1) := by decide +kernel
theorem dL_law_921 : decode cL_law 921 = .ok (.ifCond .eq 7, 3) := by decide +kernel
theorem dL_law_924 : decode cL_law 924 = .ok (.iconst 1, 1) := by decide +kernel
theorem dL_law_925 : decode cL_law 925 = .ok (.goto 4, 3) := by decide +kernel
theorem dL_law_928 : decode cL_law 928 = .ok (.iconst 0, 1) := by decide +kernel
theorem dL_law_929 : decode cL_law 929 = .ok (.aload_n 3, 1) := by decide +kernel
theorem dL_law_930 : decode cL_law 930 = .ok (.invokestatic 134, 3) := by decide +kernel
theorem dL_law_933 : decode cL_law 933 = .ok (.istore 5, 2) := by decide +kernel
theorem dL_law_935 : decode cL_law 935 = .ok (.aload_n 2, 1) := by decide +kernel
theorem dL_law_936 : decode cL_law 936 = .ok (.aload_n 0, 1) := by decide +kernel
theorem dL_law_937 : decode cL_law 937 = .ok (.iload 4, 2) := by decide +kernel
theorem dL_law_939 : decode cL_law 939 = .ok (.iconst 1, 1) := by decide +kernel
theorem dL_law_940 : decode cL_law 940 = .ok (.iadd, 1) := by decide +kernel
theorem dL_law_941 : decode cL_law 941 = .ok (.iaload, 1) := by decide +kernel
theorem dL_law_942 : decode cL_law 942 = .ok (.aload_n 0, 1) := by decide +kernel
theorem dL_law_943 : decode cL_law 943 = .ok (.iload 4, 2) := by decide +kernel
theorem dL_law_945 : decode cL_law 945 = .ok (.iconst 2, 1) := by decide +kernel
theorem dL_law_946 : decode cL_law 946 = .ok (.iadd, 1) := by decide +kernel
theorem dL_law_947 : decode cL_law 947 = .ok (.iaload, 1) := by decide +kernel
theorem dL_law_948 : decode cL_law 948 = .ok (.aload_n 0, 1) := by decide +kernel
theorem dL_law_949 : decode cL_law 949 = .ok (.iload 4, 2) := by decide +kernel
theorem dL_law_951 : decode cL_law 951 = .ok (.iconst 3, 1) := by decide +kernel
theorem dL_law_952 : decode cL_law 952 = .ok (.iadd, 1) := by decide +kernel
theorem dL_law_953 : decode cL_law 953 = .ok (.iaload, 1) := by decide +kernel
theorem dL_law_954 : decode cL_law 954 = .ok (.aload_n 0, 1) := by decide +kernel
theorem dL_law_955 : decode cL_law 955 = .ok (.iload 4, 2) := by decide +kernel
theorem dL_law_957 : decode cL_law 957 = .ok (.iconst 4, 1) := by decide +kernel
theorem dL_law_958 : decode cL_law 958 = .ok (.iadd, 1) := by decide +kernel
theorem dL_law_959 : decode cL_law 959 = .ok (.iaload, 1) := by decide +kernel
theorem dL_law_960 : decode cL_law 960 = .ok (.ifCond .eq 7, 3) := by decide +kernel
theorem dL_law_963 : decode cL_law 963 = .ok (.iconst 1, 1) := by decide +kernel
theorem dL_law_964 : decode cL_law 964 = .ok (.goto 4, 3) := by decide +kernel
theorem dL_law_967 : decode cL_law 967 = .ok (.iconst 0, 1) := by decide +kernel
theorem dL_law_968 : decode cL_law 968 = .ok (.invokevirtual 137, 3) := by decide +kernel
theorem dL_law_971 : decode cL_law 971 = .ok (.istore 6, 2) := by decide +kernel
theorem dL_law_973 : decode cL_law 973 = .ok (.aload_n 2, 1) := by decide +kernel
theorem dL_law_974 : decode cL_law 974 = .ok (.invokevirtual 99, 3) := by decide +kernel
theorem dL_law_977 : decode cL_law 977 = .ok (.iload 5, 2) := by decide +kernel
theorem dL_law_979 : decode cL_law 979 = .ok (.if_icmp .eq 5, 3) := by decide +kernel
theorem dL_law_982 : decode cL_law 982 = .ok (.iconst 0, 1) := by decide +kernel
theorem dL_law_983 : decode cL_law 983 = .ok (.ireturn, 1) := by decide +kernel
theorem dL_law_984 : decode cL_law 984 = .ok (.iload 5, 2) := by decide +kernel
theorem dL_law_986 : decode cL_law 986 = .ok (.ifCond .ne 15, 3) := by decide +kernel
theorem dL_law_989 : decode cL_law 989 = .ok (.aload_n 3, 1) := by decide +kernel
theorem dL_law_990 : decode cL_law 990 = .ok (.iconst 0, 1) := by decide +kernel
theorem dL_law_991 : decode cL_law 991 = .ok (.laload, 1) := by decide +kernel
theorem dL_law_992 : decode cL_law 992 = .ok (.iload 6, 2) := by decide +kernel
theorem dL_law_994 : decode cL_law 994 = .ok (.i2l, 1) := by decide +kernel
theorem dL_law_995 : decode cL_law 995 = .ok (.lcmp, 1) := by decide +kernel
theorem dL_law_996 : decode cL_law 996 = .ok (.ifCond .eq 5, 3) := by decide +kernel
theorem dL_law_999 : decode cL_law 999 = .ok (.iconst 0, 1) := by decide +kernel
theorem dL_law_1000 : decode cL_law 1000 = .ok (.ireturn, 1) := by decide +kernel
theorem dL_law_1001 : decode cL_law 1001 = .ok (.goto 834, 3) := by decide +kernel
theorem dL_law_1004 : decode cL_law 1004 = .ok (.aload_n 1, 1) := by decide +kernel
theorem dL_law_1005 : decode cL_law 1005 = .ok (.aload_n 0, 1) := by decide +kernel
theorem dL_law_1006 : decode cL_law 1006 = .ok (.iload 4, 2) := by decide +kernel
theorem dL_law_1008 : decode cL_law 1008 = .ok (.iconst 1, 1) := by decide +kernel
theorem dL_law_1009 : decode cL_law 1009 = .ok (.iadd, 1) := by decide +kernel
theorem dL_law_1010 : decode cL_law 1010 = .ok (.iaload, 1) := by decide +kernel
theorem dL_law_1011 : decode cL_law 1011 = .ok (.aload_n 0, 1) := by decide +kernel
theorem dL_law_1012 : decode cL_law 1012 = .ok (.iload 4, 2) := by decide +kernel
theorem dL_law_1014 : decode cL_law 1014 = .ok (.iconst 2, 1) := by decide +kernel
theorem dL_law_1015 : decode cL_law 1015 = .ok (.iadd, 1) := by decide +kernel
theorem dL_law_1016 : decode cL_law 1016 = .ok (.iaload, 1) := by decide +kernel
theorem dL_law_1017 : decode cL_law 1017 = .ok (.aload_n 0, 1) := by decide +kernel
theorem dL_law_1018 : decode cL_law 1018 = .ok (.iload 4, 2) := by decide +kernel
theorem dL_law_1020 : decode cL_law 1020 = .ok (.iconst 3, 1) := by decide +kernel
theorem dL_law_1021 : decode cL_law 1021 = .ok (.iadd, 1) := by decide +kernel
theorem dL_law_1022 : decode cL_law 1022 = .ok (.iaload, 1) := by decide +kernel
theorem dL_law_1023 : decode cL_law 1023 = .ok (.aload_n 3, 1) := by decide +kernel
theorem dL_law_1024 : decode cL_law 1024 = .ok (.invokestatic 138, 3) := by decide +kernel
theorem dL_law_1027 : decode cL_law 1027 = .ok (.istore 5, 2) := by decide +kernel
theorem dL_law_1029 : decode cL_law 1029 = .ok (.aload_n 2, 1) := by decide +kernel
theorem dL_law_1030 : decode cL_law 1030 = .ok (.aload_n 0, 1) := by decide +kernel
theorem dL_law_1031 : decode cL_law 1031 = .ok (.iload 4, 2) := by decide +kernel
theorem dL_law_1033 : decode cL_law 1033 = .ok (.iconst 1, 1) := by decide +kernel
theorem dL_law_1034 : decode cL_law 1034 = .ok (.iadd, 1) := by decide +kernel
theorem dL_law_1035 : decode cL_law 1035 = .ok (.iaload, 1) := by decide +kernel
theorem dL_law_1036 : decode cL_law 1036 = .ok (.aload_n 0, 1) := by decide +kernel
theorem dL_law_1037 : decode cL_law 1037 = .ok (.iload 4, 2) := by decide +kernel
theorem dL_law_1039 : decode cL_law 1039 = .ok (.iconst 2, 1) := by decide +kernel
theorem dL_law_1040 : decode cL_law 1040 = .ok (.iadd, 1) := by decide +kernel
theorem dL_law_1041 : decode cL_law 1041 = .ok (.iaload, 1) := by decide +kernel
theorem dL_law_1042 : decode cL_law 1042 = .ok (.aload_n 0, 1) := by decide +kernel
theorem dL_law_1043 : decode cL_law 1043 = .ok (.iload 4, 2) := by decide +kernel
theorem dL_law_1045 : decode cL_law 1045 = .ok (.iconst 3, 1) := by decide +kernel
theorem dL_law_1046 : decode cL_law 1046 = .ok (.iadd, 1) := by decide +kernel
theorem dL_law_1047 : decode cL_law 1047 = .ok (.iaload, 1) := by decide +kernel
theorem dL_law_1048 : decode cL_law 1048 = .ok (.invokevirtual 140, 3) := by decide +kernel
theorem dL_law_1051 : decode cL_law 1051 = .ok (.istore 6, 2) := by decide +kernel
theorem dL_law_1053 : decode cL_law 1053 = .ok (.aload_n 2, 1) := by decide +kernel
theorem dL_law_1054 : decode cL_law 1054 = .ok (.invokevirtual 99, 3) := by decide +kernel
theorem dL_law_1057 : decode cL_law 1057 = .ok (.iload 5, 2) := by decide +kernel
theorem dL_law_1059 : decode cL_law 1059 = .ok (.if_icmp .eq 5, 3) := by decide +kernel
theorem dL_law_1062 : decode cL_law 1062 = .ok (.iconst 0, 1) := by decide +kernel
theorem dL_law_1063 : decode cL_law 1063 = .ok (.ireturn, 1) := by decide +kernel
theorem dL_law_1064 : decode cL_law 1064 = .ok (.iload 5, 2) := by decide +kernel
theorem dL_law_1066 : decode cL_law 1066 = .ok (.ifCond .ne 15, 3) := by decide +kernel
theorem dL_law_1069 : decode cL_law 1069 = .ok (.aload_n 3, 1) := by decide +kernel
theorem dL_law_1070 : decode cL_law 1070 = .ok (.iconst 0, 1) := by decide +kernel
theorem dL_law_1071 : decode cL_law 1071 = .ok (.laload, 1) := by decide +kernel
theorem dL_law_1072 : decode cL_law 1072 = .ok (.iload 6, 2) := by decide +kernel
theorem dL_law_1074 : decode cL_law 1074 = .ok (.i2l, 1) := by decide +kernel
theorem dL_law_1075 : decode cL_law 1075 = .ok (.lcmp, 1) := by decide +kernel
theorem dL_law_1076 : decode cL_law 1076 = .ok (.ifCond .eq 5, 3) := by decide +kernel
theorem dL_law_1079 : decode cL_law 1079 = .ok (.iconst 0, 1) := by decide +kernel
theorem dL_law_1080 : decode cL_law 1080 = .ok (.ireturn, 1) := by decide +kernel
theorem dL_law_1081 : decode cL_law 1081 = .ok (.goto 754, 3) := by decide +kernel
theorem dL_law_1084 : decode cL_law 1084 = .ok (.aload_n 1, 1) := by decide +kernel
theorem dL_law_1085 : decode cL_law 1085 = .ok (.aload_n 0, 1) := by decide +kernel
theorem dL_law_1086 : decode cL_law 1086 = .ok (.iload 4, 2) := by decide +kernel
theorem dL_law_1088 : decode cL_law 1088 = .ok (.iconst 1, 1) := by decide +kernel
theorem dL_law_1089 : decode cL_law 1089 = .ok (.iadd, 1) := by decide +kernel
theorem dL_law_1090 : decode cL_law 1090 = .ok (.iaload, 1) := by decide +kernel
theorem dL_law_1091 : decode cL_law 1091 = .ok (.aload_n 0, 1) := by decide +kernel
theorem dL_law_1092 : decode cL_law 1092 = .ok (.iload 4, 2) := by decide +kernel
theorem dL_law_1094 : decode cL_law 1094 = .ok (.iconst 2, 1) := by decide +kernel
theorem dL_law_1095 : decode cL_law 1095 = .ok (.iadd, 1) := by decide +kernel
theorem dL_law_1096 : decode cL_law 1096 = .ok (.iaload, 1) := by decide +kernel
theorem dL_law_1097 : decode cL_law 1097 = .ok (.aload_n 3, 1) := by decide +kernel
theorem dL_law_1098 : decode cL_law 1098 = .ok (.invokestatic 141, 3) := by decide +kernel
theorem dL_law_1101 : decode cL_law 1101 = .ok (.istore 5, 2) := by decide +kernel
theorem dL_law_1103 : decode cL_law 1103 = .ok (.aload_n 2, 1) := by decide +kernel
theorem dL_law_1104 : decode cL_law 1104 = .ok (.aload_n 0, 1) := by decide +kernel
theorem dL_law_1105 : decode cL_law 1105 = .ok (.iload 4, 2) := by decide +kernel
theorem dL_law_1107 : decode cL_law 1107 = .ok (.iconst 1, 1) := by decide +kernel
theorem dL_law_1108 : decode cL_law 1108 = .ok (.iadd, 1) := by decide +kernel
theorem dL_law_1109 : decode cL_law 1109 = .ok (.iaload, 1) := by decide +kernel
theorem dL_law_1110 : decode cL_law 1110 = .ok (.aload_n 0, 1) := by decide +kernel
theorem dL_law_1111 : decode cL_law 1111 = .ok (.iload 4, 2) := by decide +kernel
theorem dL_law_1113 : decode cL_law 1113 = .ok (.iconst 2, 1) := by decide +kernel
theorem dL_law_1114 : decode cL_law 1114 = .ok (.iadd, 1) := by decide +kernel
theorem dL_law_1115 : decode cL_law 1115 = .ok (.iaload, 1) := by decide +kernel
theorem dL_law_1116 : decode cL_law 1116 = .ok (.invokevirtual 143, 3) := by decide +kernel
theorem dL_law_1119 : decode cL_law 1119 = .ok (.istore 6, 2) := by decide +kernel
theorem dL_law_1121 : decode cL_law 1121 = .ok (.aload_n 2, 1) := by decide +kernel
theorem dL_law_1122 : decode cL_law 1122 = .ok (.invokevirtual 99, 3) := by decide +kernel
theorem dL_law_1125 : decode cL_law 1125 = .ok (.iload 5, 2) := by decide +kernel
theorem dL_law_1127 : decode cL_law 1127 = .ok (.if_icmp .eq 5, 3) := by decide +kernel
theorem dL_law_1130 : decode cL_law 1130 = .ok (.iconst 0, 1) := by decide +kernel
theorem dL_law_1131 : decode cL_law 1131 = .ok (.ireturn, 1) := by decide +kernel
theorem dL_law_1132 : decode cL_law 1132 = .ok (.iload 5, 2) := by decide +kernel
theorem dL_law_1134 : decode cL_law 1134 = .ok (.ifCond .ne 22, 3) := by decide +kernel
theorem dL_law_1137 : decode cL_law 1137 = .ok (.aload_n 3, 1) := by decide +kernel
theorem dL_law_1138 : decode cL_law 1138 = .ok (.iconst 0, 1) := by decide +kernel
theorem dL_law_1139 : decode cL_law 1139 = .ok (.laload, 1) := by decide +kernel
theorem dL_law_1140 : decode cL_law 1140 = .ok (.iload 6, 2) := by decide +kernel
theorem dL_law_1142 : decode cL_law 1142 = .ok (.ifCond .eq 7, 3) := by decide +kernel
theorem dL_law_1145 : decode cL_law 1145 = .ok (.lconst 1, 1) := by decide +kernel
theorem dL_law_1146 : decode cL_law 1146 = .ok (.goto 4, 3) := by decide +kernel
theorem dL_law_1149 : decode cL_law 1149 = .ok (.lconst 0, 1) := by decide +kernel
theorem dL_law_1150 : decode cL_law 1150 = .ok (.lcmp, 1) := by decide +kernel
theorem dL_law_1151 : decode cL_law 1151 = .ok (.ifCond .eq 5, 3) := by decide +kernel
theorem dL_law_1154 : decode cL_law 1154 = .ok (.iconst 0, 1) := by decide +kernel
theorem dL_law_1155 : decode cL_law 1155 = .ok (.ireturn, 1) := by decide +kernel
theorem dL_law_1156 : decode cL_law 1156 = .ok (.goto 679, 3) := by decide +kernel
theorem dL_law_1159 : decode cL_law 1159 = .ok (.aload_n 1, 1) := by decide +kernel
theorem dL_law_1160 : decode cL_law 1160 = .ok (.aload_n 0, 1) := by decide +kernel
theorem dL_law_1161 : decode cL_law 1161 = .ok (.iload 4, 2) := by decide +kernel
theorem dL_law_1163 : decode cL_law 1163 = .ok (.iconst 1, 1) := by decide +kernel
theorem dL_law_1164 : decode cL_law 1164 = .ok (.iadd, 1) := by decide +kernel
theorem dL_law_1165 : decode cL_law 1165 = .ok (.iaload, 1) := by decide +kernel
theorem dL_law_1166 : decode cL_law 1166 = .ok (.aload_n 0, 1) := by decide +kernel
theorem dL_law_1167 : decode cL_law 1167 = .ok (.iload 4, 2) := by decide +kernel
theorem dL_law_1169 : decode cL_law 1169 = .ok (.iconst 2, 1) := by decide +kernel
theorem dL_law_1170 : decode cL_law 1170 = .ok (.iadd, 1) := by decide +kernel
theorem dL_law_1171 : decode cL_law 1171 = .ok (.iaload, 1) := by decide +kernel
theorem dL_law_1172 : decode cL_law 1172 = .ok (.ifCond .eq 7, 3) := by decide +kernel
theorem dL_law_1175 : decode cL_law 1175 = .ok (.iconst 1, 1) := by decide +kernel
theorem dL_law_1176 : decode cL_law 1176 = .ok (.goto 4, 3) := by decide +kernel
theorem dL_law_1179 : decode cL_law 1179 = .ok (.iconst 0, 1) := by decide +kernel
theorem dL_law_1180 : decode cL_law 1180 = .ok (.aload_n 3, 1) := by decide +kernel
theorem dL_law_1181 : decode cL_law 1181 = .ok (.invokestatic 144, 3) := by decide +kernel
theorem dL_law_1184 : decode cL_law 1184 = .ok (.istore 5, 2) := by decide +kernel
theorem dL_law_1186 : decode cL_law 1186 = .ok (.aload_n 2, 1) := by decide +kernel
theorem dL_law_1187 : decode cL_law 1187 = .ok (.aload_n 0, 1) := by decide +kernel
theorem dL_law_1188 : decode cL_law 1188 = .ok (.iload 4, 2) := by decide +kernel
theorem dL_law_1190 : decode cL_law 1190 = .ok (.iconst 1, 1) := by decide +kernel
theorem dL_law_1191 : decode cL_law 1191 = .ok (.iadd, 1) := by decide +kernel
theorem dL_law_1192 : decode cL_law 1192 = .ok (.iaload, 1) := by decide +kernel
theorem dL_law_1193 : decode cL_law 1193 = .ok (.aload_n 0, 1) := by decide +kernel
theorem dL_law_1194 : decode cL_law 1194 = .ok (.iload 4, 2) := by decide +kernel
theorem dL_law_1196 : decode cL_law 1196 = .ok (.iconst 2, 1) := by decide +kernel
theorem dL_law_1197 : decode cL_law 1197 = .ok (.iadd, 1) := by decide +kernel
theorem dL_law_1198 : decode cL_law 1198 = .ok (.iaload, 1) := by decide +kernel
theorem dL_law_1199 : decode cL_law 1199 = .ok (.ifCond .eq 7, 3) := by decide +kernel
theorem dL_law_1202 : decode cL_law 1202 = .ok (.iconst 1, 1) := by decide +kernel
theorem dL_law_1203 : decode cL_law 1203 = .ok (.goto 4, 3) := by decide +kernel
theorem dL_law_1206 : decode cL_law 1206 = .ok (.iconst 0, 1) := by decide +kernel
theorem dL_law_1207 : decode cL_law 1207 = .ok (.invokevirtual 147, 3) := by decide +kernel
theorem dL_law_1210 : decode cL_law 1210 = .ok (.istore 6, 2) := by decide +kernel
theorem dL_law_1212 : decode cL_law 1212 = .ok (.aload_n 2, 1) := by decide +kernel
theorem dL_law_1213 : decode cL_law 1213 = .ok (.invokevirtual 99, 3) := by decide +kernel
theorem dL_law_1216 : decode cL_law 1216 = .ok (.iload 5, 2) := by decide +kernel
theorem dL_law_1218 : decode cL_law 1218 = .ok (.if_icmp .eq 5, 3) := by decide +kernel
theorem dL_law_1221 : decode cL_law 1221 = .ok (.iconst 0, 1) := by decide +kernel
theorem dL_law_1222 : decode cL_law 1222 = .ok (.ireturn, 1) := by decide +kernel
theorem dL_law_1223 : decode cL_law 1223 = .ok (.iload 5, 2) := by decide +kernel
theorem dL_law_1225 : decode cL_law 1225 = .ok (.ifCond .ne 15, 3) := by decide +kernel
theorem dL_law_1228 : decode cL_law 1228 = .ok (.aload_n 3, 1) := by decide +kernel
theorem dL_law_1229 : decode cL_law 1229 = .ok (.iconst 0, 1) := by decide +kernel
theorem dL_law_1230 : decode cL_law 1230 = .ok (.laload, 1) := by decide +kernel
theorem dL_law_1231 : decode cL_law 1231 = .ok (.iload 6, 2) := by decide +kernel
theorem dL_law_1233 : decode cL_law 1233 = .ok (.i2l, 1) := by decide +kernel
theorem dL_law_1234 : decode cL_law 1234 = .ok (.lcmp, 1) := by decide +kernel
theorem dL_law_1235 : decode cL_law 1235 = .ok (.ifCond .eq 5, 3) := by decide +kernel
theorem dL_law_1238 : decode cL_law 1238 = .ok (.iconst 0, 1) := by decide +kernel
theorem dL_law_1239 : decode cL_law 1239 = .ok (.ireturn, 1) := by decide +kernel
theorem dL_law_1240 : decode cL_law 1240 = .ok (.goto 595, 3) := by decide +kernel
theorem dL_law_1243 : decode cL_law 1243 = .ok (.aload_n 1, 1) := by decide +kernel
theorem dL_law_1244 : decode cL_law 1244 = .ok (.aload_n 0, 1) := by decide +kernel
theorem dL_law_1245 : decode cL_law 1245 = .ok (.iload 4, 2) := by decide +kernel
theorem dL_law_1247 : decode cL_law 1247 = .ok (.iconst 1, 1) := by decide +kernel
theorem dL_law_1248 : decode cL_law 1248 = .ok (.iadd, 1) := by decide +kernel
theorem dL_law_1249 : decode cL_law 1249 = .ok (.iaload, 1) := by decide +kernel
theorem dL_law_1250 : decode cL_law 1250 = .ok (.aload_n 0, 1) := by decide +kernel
theorem dL_law_1251 : decode cL_law 1251 = .ok (.iload 4, 2) := by decide +kernel
theorem dL_law_1253 : decode cL_law 1253 = .ok (.iconst 2, 1) := by decide +kernel
theorem dL_law_1254 : decode cL_law 1254 = .ok (.iadd, 1) := by decide +kernel
theorem dL_law_1255 : decode cL_law 1255 = .ok (.iaload, 1) := by decide +kernel
theorem dL_law_1256 : decode cL_law 1256 = .ok (.aload_n 0, 1) := by decide +kernel
theorem dL_law_1257 : decode cL_law 1257 = .ok (.iload 4, 2) := by decide +kernel
theorem dL_law_1259 : decode cL_law 1259 = .ok (.iconst 3, 1) := by decide +kernel
theorem dL_law_1260 : decode cL_law 1260 = .ok (.iadd, 1) := by decide +kernel
theorem dL_law_1261 : decode cL_law 1261 = .ok (.iaload, 1) := by decide +kernel
theorem dL_law_1262 : decode cL_law 1262 = .ok (.aload_n 3, 1) := by decide +kernel
theorem dL_law_1263 : decode cL_law 1263 = .ok (.invokestatic 148, 3) := by decide +kernel
theorem dL_law_1266 : decode cL_law 1266 = .ok (.istore 5, 2) := by decide +kernel
theorem dL_law_1268 : decode cL_law 1268 = .ok (.aload_n 2, 1) := by decide +kernel
theorem dL_law_1269 : decode cL_law 1269 = .ok (.aload_n 0, 1) := by decide +kernel
theorem dL_law_1270 : decode cL_law 1270 = .ok (.iload 4, 2) := by decide +kernel
theorem dL_law_1272 : decode cL_law 1272 = .ok (.iconst 1, 1) := by decide +kernel
theorem dL_law_1273 : decode cL_law 1273 = .ok (.iadd, 1) := by decide +kernel
theorem dL_law_1274 : decode cL_law 1274 = .ok (.iaload, 1) := by decide +kernel
theorem dL_law_1275 : decode cL_law 1275 = .ok (.aload_n 0, 1) := by decide +kernel
theorem dL_law_1276 : decode cL_law 1276 = .ok (.iload 4, 2) := by decide +kernel
theorem dL_law_1278 : decode cL_law 1278 = .ok (.iconst 2, 1) := by decide +kernel
theorem dL_law_1279 : decode cL_law 1279 = .ok (.iadd, 1) := by decide +kernel
theorem dL_law_1280 : decode cL_law 1280 = .ok (.iaload, 1) := by decide +kernel
theorem dL_law_1281 : decode cL_law 1281 = .ok (.aload_n 0, 1) := by decide +kernel
theorem dL_law_1282 : decode cL_law 1282 = .ok (.iload 4, 2) := by decide +kernel
theorem dL_law_1284 : decode cL_law 1284 = .ok (.iconst 3, 1) := by decide +kernel
theorem dL_law_1285 : decode cL_law 1285 = .ok (.iadd, 1) := by decide +kernel
theorem dL_law_1286 : decode cL_law 1286 = .ok (.iaload, 1) := by decide +kernel
theorem dL_law_1287 : decode cL_law 1287 = .ok (.invokevirtual 150, 3) := by decide +kernel
theorem dL_law_1290 : decode cL_law 1290 = .ok (.istore 6, 2) := by decide +kernel
theorem dL_law_1292 : decode cL_law 1292 = .ok (.aload_n 2, 1) := by decide +kernel
theorem dL_law_1293 : decode cL_law 1293 = .ok (.invokevirtual 99, 3) := by decide +kernel
theorem dL_law_1296 : decode cL_law 1296 = .ok (.iload 5, 2) := by decide +kernel
theorem dL_law_1298 : decode cL_law 1298 = .ok (.if_icmp .eq 5, 3) := by decide +kernel
theorem dL_law_1301 : decode cL_law 1301 = .ok (.iconst 0, 1) := by decide +kernel
theorem dL_law_1302 : decode cL_law 1302 = .ok (.ireturn, 1) := by decide +kernel
theorem dL_law_1303 : decode cL_law 1303 = .ok (.iload 5, 2) := by decide +kernel
theorem dL_law_1305 : decode cL_law 1305 = .ok (.ifCond .ne 15, 3) := by decide +kernel
theorem dL_law_1308 : decode cL_law 1308 = .ok (.aload_n 3, 1) := by decide +kernel
theorem dL_law_1309 : decode cL_law 1309 = .ok (.iconst 0, 1) := by decide +kernel
theorem dL_law_1310 : decode cL_law 1310 = .ok (.laload, 1) := by decide +kernel
theorem dL_law_1311 : decode cL_law 1311 = .ok (.iload 6, 2) := by decide +kernel
theorem dL_law_1313 : decode cL_law 1313 = .ok (.i2l, 1) := by decide +kernel
theorem dL_law_1314 : decode cL_law 1314 = .ok (.lcmp, 1) := by decide +kernel
theorem dL_law_1315 : decode cL_law 1315 = .ok (.ifCond .eq 5, 3) := by decide +kernel
theorem dL_law_1318 : decode cL_law 1318 = .ok (.iconst 0, 1) := by decide +kernel
theorem dL_law_1319 : decode cL_law 1319 = .ok (.ireturn, 1) := by decide +kernel
theorem dL_law_1320 : decode cL_law 1320 = .ok (.goto 515, 3) := by decide +kernel
theorem dL_law_1323 : decode cL_law 1323 = .ok (.aload_n 1, 1) := by decide +kernel
theorem dL_law_1324 : decode cL_law 1324 = .ok (.aload_n 0, 1) := by decide +kernel
theorem dL_law_1325 : decode cL_law 1325 = .ok (.iload 4, 2) := by decide +kernel
theorem dL_law_1327 : decode cL_law 1327 = .ok (.iconst 1, 1) := by decide +kernel
theorem dL_law_1328 : decode cL_law 1328 = .ok (.iadd, 1) := by decide +kernel
theorem dL_law_1329 : decode cL_law 1329 = .ok (.iaload, 1) := by decide +kernel
theorem dL_law_1330 : decode cL_law 1330 = .ok (.aload_n 0, 1) := by decide +kernel
theorem dL_law_1331 : decode cL_law 1331 = .ok (.iload 4, 2) := by decide +kernel
theorem dL_law_1333 : decode cL_law 1333 = .ok (.iconst 2, 1) := by decide +kernel
theorem dL_law_1334 : decode cL_law 1334 = .ok (.iadd, 1) := by decide +kernel
theorem dL_law_1335 : decode cL_law 1335 = .ok (.iaload, 1) := by decide +kernel
theorem dL_law_1336 : decode cL_law 1336 = .ok (.aload_n 0, 1) := by decide +kernel
theorem dL_law_1337 : decode cL_law 1337 = .ok (.iload 4, 2) := by decide +kernel
theorem dL_law_1339 : decode cL_law 1339 = .ok (.iconst 3, 1) := by decide +kernel
theorem dL_law_1340 : decode cL_law 1340 = .ok (.iadd, 1) := by decide +kernel
theorem dL_law_1341 : decode cL_law 1341 = .ok (.iaload, 1) := by decide +kernel
theorem dL_law_1342 : decode cL_law 1342 = .ok (.aload_n 3, 1) := by decide +kernel
theorem dL_law_1343 : decode cL_law 1343 = .ok (.invokestatic 151, 3) := by decide +kernel
theorem dL_law_1346 : decode cL_law 1346 = .ok (.istore 5, 2) := by decide +kernel
theorem dL_law_1348 : decode cL_law 1348 = .ok (.aload_n 2, 1) := by decide +kernel
theorem dL_law_1349 : decode cL_law 1349 = .ok (.aload_n 0, 1) := by decide +kernel
theorem dL_law_1350 : decode cL_law 1350 = .ok (.iload 4, 2) := by decide +kernel
theorem dL_law_1352 : decode cL_law 1352 = .ok (.iconst 1, 1) := by decide +kernel
theorem dL_law_1353 : decode cL_law 1353 = .ok (.iadd, 1) := by decide +kernel
theorem dL_law_1354 : decode cL_law 1354 = .ok (.iaload, 1) := by decide +kernel
theorem dL_law_1355 : decode cL_law 1355 = .ok (.aload_n 0, 1) := by decide +kernel
theorem dL_law_1356 : decode cL_law 1356 = .ok (.iload 4, 2) := by decide +kernel
theorem dL_law_1358 : decode cL_law 1358 = .ok (.iconst 2, 1) := by decide +kernel
theorem dL_law_1359 : decode cL_law 1359 = .ok (.iadd, 1) := by decide +kernel
theorem dL_law_1360 : decode cL_law 1360 = .ok (.iaload, 1) := by decide +kernel
theorem dL_law_1361 : decode cL_law 1361 = .ok (.aload_n 0, 1) := by decide +kernel
theorem dL_law_1362 : decode cL_law 1362 = .ok (.iload 4, 2) := by decide +kernel
theorem dL_law_1364 : decode cL_law 1364 = .ok (.iconst 3, 1) := by decide +kernel
theorem dL_law_1365 : decode cL_law 1365 = .ok (.iadd, 1) := by decide +kernel
theorem dL_law_1366 : decode cL_law 1366 = .ok (.iaload, 1) := by decide +kernel
theorem dL_law_1367 : decode cL_law 1367 = .ok (.invokevirtual 153, 3) := by decide +kernel
theorem dL_law_1370 : decode cL_law 1370 = .ok (.istore 6, 2) := by decide +kernel
theorem dL_law_1372 : decode cL_law 1372 = .ok (.aload_n 2, 1) := by decide +kernel
theorem dL_law_1373 : decode cL_law 1373 = .ok (.invokevirtual 99, 3) := by decide +kernel
theorem dL_law_1376 : decode cL_law 1376 = .ok (.iload 5, 2) := by decide +kernel
theorem dL_law_1378 : decode cL_law 1378 = .ok (.if_icmp .eq 5, 3) := by decide +kernel
theorem dL_law_1381 : decode cL_law 1381 = .ok (.iconst 0, 1) := by decide +kernel
theorem dL_law_1382 : decode cL_law 1382 = .ok (.ireturn, 1) := by decide +kernel
theorem dL_law_1383 : decode cL_law 1383 = .ok (.iload 5, 2) := by decide +kernel
theorem dL_law_1385 : decode cL_law 1385 = .ok (.ifCond .ne 15, 3) := by decide +kernel
theorem dL_law_1388 : decode cL_law 1388 = .ok (.aload_n 3, 1) := by decide +kernel
theorem dL_law_1389 : decode cL_law 1389 = .ok (.iconst 0, 1) := by decide +kernel
theorem dL_law_1390 : decode cL_law 1390 = .ok (.laload, 1) := by decide +kernel
theorem dL_law_1391 : decode cL_law 1391 = .ok (.iload 6, 2) := by decide +kernel
theorem dL_law_1393 : decode cL_law 1393 = .ok (.i2l, 1) := by decide +kernel
theorem dL_law_1394 : decode cL_law 1394 = .ok (.lcmp, 1) := by decide +kernel
theorem dL_law_1395 : decode cL_law 1395 = .ok (.ifCond .eq 5, 3) := by decide +kernel
theorem dL_law_1398 : decode cL_law 1398 = .ok (.iconst 0, 1) := by decide +kernel
theorem dL_law_1399 : decode cL_law 1399 = .ok (.ireturn, 1) := by decide +kernel
theorem dL_law_1400 : decode cL_law 1400 = .ok (.goto 435, 3) := by decide +kernel
theorem dL_law_1403 : decode cL_law 1403 = .ok (.aload_n 1, 1) := by decide +kernel
theorem dL_law_1404 : decode cL_law 1404 = .ok (.aload_n 0, 1) := by decide +kernel
theorem dL_law_1405 : decode cL_law 1405 = .ok (.iload 4, 2) := by decide +kernel
theorem dL_law_1407 : decode cL_law 1407 = .ok (.iconst 1, 1) := by decide +kernel
theorem dL_law_1408 : decode cL_law 1408 = .ok (.iadd, 1) := by decide +kernel
theorem dL_law_1409 : decode cL_law 1409 = .ok (.iaload, 1) := by decide +kernel
theorem dL_law_1410 : decode cL_law 1410 = .ok (.aload_n 0, 1) := by decide +kernel
theorem dL_law_1411 : decode cL_law 1411 = .ok (.iload 4, 2) := by decide +kernel
theorem dL_law_1413 : decode cL_law 1413 = .ok (.iconst 2, 1) := by decide +kernel
theorem dL_law_1414 : decode cL_law 1414 = .ok (.iadd, 1) := by decide +kernel
theorem dL_law_1415 : decode cL_law 1415 = .ok (.iaload, 1) := by decide +kernel
theorem dL_law_1416 : decode cL_law 1416 = .ok (.aload_n 3, 1) := by decide +kernel
theorem dL_law_1417 : decode cL_law 1417 = .ok (.invokestatic 154, 3) := by decide +kernel
theorem dL_law_1420 : decode cL_law 1420 = .ok (.istore 5, 2) := by decide +kernel
theorem dL_law_1422 : decode cL_law 1422 = .ok (.aload_n 2, 1) := by decide +kernel
theorem dL_law_1423 : decode cL_law 1423 = .ok (.aload_n 0, 1) := by decide +kernel
theorem dL_law_1424 : decode cL_law 1424 = .ok (.iload 4, 2) := by decide +kernel
theorem dL_law_1426 : decode cL_law 1426 = .ok (.iconst 1, 1) := by decide +kernel
theorem dL_law_1427 : decode cL_law 1427 = .ok (.iadd, 1) := by decide +kernel
theorem dL_law_1428 : decode cL_law 1428 = .ok (.iaload, 1) := by decide +kernel
theorem dL_law_1429 : decode cL_law 1429 = .ok (.aload_n 0, 1) := by decide +kernel
theorem dL_law_1430 : decode cL_law 1430 = .ok (.iload 4, 2) := by decide +kernel
theorem dL_law_1432 : decode cL_law 1432 = .ok (.iconst 2, 1) := by decide +kernel
theorem dL_law_1433 : decode cL_law 1433 = .ok (.iadd, 1) := by decide +kernel
theorem dL_law_1434 : decode cL_law 1434 = .ok (.iaload, 1) := by decide +kernel
theorem dL_law_1435 : decode cL_law 1435 = .ok (.invokevirtual 156, 3) := by decide +kernel
theorem dL_law_1438 : decode cL_law 1438 = .ok (.istore 6, 2) := by decide +kernel
theorem dL_law_1440 : decode cL_law 1440 = .ok (.aload_n 2, 1) := by decide +kernel
theorem dL_law_1441 : decode cL_law 1441 = .ok (.invokevirtual 99, 3) := by decide +kernel
theorem dL_law_1444 : decode cL_law 1444 = .ok (.iload 5, 2) := by decide +kernel
theorem dL_law_1446 : decode cL_law 1446 = .ok (.if_icmp .eq 5, 3) := by decide +kernel
theorem dL_law_1449 : decode cL_law 1449 = .ok (.iconst 0, 1) := by decide +kernel
theorem dL_law_1450 : decode cL_law 1450 = .ok (.ireturn, 1) := by decide +kernel
theorem dL_law_1451 : decode cL_law 1451 = .ok (.iload 5, 2) := by decide +kernel
theorem dL_law_1453 : decode cL_law 1453 = .ok (.ifCond .ne 15, 3) := by decide +kernel
theorem dL_law_1456 : decode cL_law 1456 = .ok (.aload_n 3, 1) := by decide +kernel
theorem dL_law_1457 : decode cL_law 1457 = .ok (.iconst 0, 1) := by decide +kernel
theorem dL_law_1458 : decode cL_law 1458 = .ok (.laload, 1) := by decide +kernel
theorem dL_law_1459 : decode cL_law 1459 = .ok (.iload 6, 2) := by decide +kernel
theorem dL_law_1461 : decode cL_law 1461 = .ok (.i2l, 1) := by decide +kernel
theorem dL_law_1462 : decode cL_law 1462 = .ok (.lcmp, 1) := by decide +kernel
theorem dL_law_1463 : decode cL_law 1463 = .ok (.ifCond .eq 5, 3) := by decide +kernel
theorem dL_law_1466 : decode cL_law 1466 = .ok (.iconst 0, 1) := by decide +kernel
theorem dL_law_1467 : decode cL_law 1467 = .ok (.ireturn, 1) := by decide +kernel
theorem dL_law_1468 : decode cL_law 1468 = .ok (.goto 367, 3) := by decide +kernel
theorem dL_law_1471 : decode cL_law 1471 = .ok (.aload_n 1, 1) := by decide +kernel
theorem dL_law_1472 : decode cL_law 1472 = .ok (.aload_n 0, 1) := by decide +kernel
theorem dL_law_1473 : decode cL_law 1473 = .ok (.iload 4, 2) := by decide +kernel
theorem dL_law_1475 : decode cL_law 1475 = .ok (.iconst 1, 1) := by decide +kernel
theorem dL_law_1476 : decode cL_law 1476 = .ok (.iadd, 1) := by decide +kernel
theorem dL_law_1477 : decode cL_law 1477 = .ok (.iaload, 1) := by decide +kernel
theorem dL_law_1478 : decode cL_law 1478 = .ok (.aload_n 0, 1) := by decide +kernel
theorem dL_law_1479 : decode cL_law 1479 = .ok (.iload 4, 2) := by decide +kernel
theorem dL_law_1481 : decode cL_law 1481 = .ok (.iconst 2, 1) := by decide +kernel
theorem dL_law_1482 : decode cL_law 1482 = .ok (.iadd, 1) := by decide +kernel
theorem dL_law_1483 : decode cL_law 1483 = .ok (.iaload, 1) := by decide +kernel
theorem dL_law_1484 : decode cL_law 1484 = .ok (.aload_n 3, 1) := by decide +kernel
theorem dL_law_1485 : decode cL_law 1485 = .ok (.invokestatic 157, 3) := by decide +kernel
theorem dL_law_1488 : decode cL_law 1488 = .ok (.istore 5, 2) := by decide +kernel
theorem dL_law_1490 : decode cL_law 1490 = .ok (.aload_n 2, 1) := by decide +kernel
theorem dL_law_1491 : decode cL_law 1491 = .ok (.aload_n 0, 1) := by decide +kernel
theorem dL_law_1492 : decode cL_law 1492 = .ok (.iload 4, 2) := by decide +kernel
theorem dL_law_1494 : decode cL_law 1494 = .ok (.iconst 1, 1) := by decide +kernel
theorem dL_law_1495 : decode cL_law 1495 = .ok (.iadd, 1) := by decide +kernel
theorem dL_law_1496 : decode cL_law 1496 = .ok (.iaload, 1) := by decide +kernel
theorem dL_law_1497 : decode cL_law 1497 = .ok (.aload_n 0, 1) := by decide +kernel
theorem dL_law_1498 : decode cL_law 1498 = .ok (.iload 4, 2) := by decide +kernel
theorem dL_law_1500 : decode cL_law 1500 = .ok (.iconst 2, 1) := by decide +kernel
theorem dL_law_1501 : decode cL_law 1501 = .ok (.iadd, 1) := by decide +kernel
theorem dL_law_1502 : decode cL_law 1502 = .ok (.iaload, 1) := by decide +kernel
theorem dL_law_1503 : decode cL_law 1503 = .ok (.invokevirtual 159, 3) := by decide +kernel
theorem dL_law_1506 : decode cL_law 1506 = .ok (.istore 6, 2) := by decide +kernel
theorem dL_law_1508 : decode cL_law 1508 = .ok (.aload_n 2, 1) := by decide +kernel
theorem dL_law_1509 : decode cL_law 1509 = .ok (.invokevirtual 99, 3) := by decide +kernel
theorem dL_law_1512 : decode cL_law 1512 = .ok (.iload 5, 2) := by decide +kernel
theorem dL_law_1514 : decode cL_law 1514 = .ok (.if_icmp .eq 5, 3) := by decide +kernel
theorem dL_law_1517 : decode cL_law 1517 = .ok (.iconst 0, 1) := by decide +kernel
theorem dL_law_1518 : decode cL_law 1518 = .ok (.ireturn, 1) := by decide +kernel
theorem dL_law_1519 : decode cL_law 1519 = .ok (.iload 5, 2) := by decide +kernel
theorem dL_law_1521 : decode cL_law 1521 = .ok (.ifCond .ne 15, 3) := by decide +kernel
theorem dL_law_1524 : decode cL_law 1524 = .ok (.aload_n 3, 1) := by decide +kernel
theorem dL_law_1525 : decode cL_law 1525 = .ok (.iconst 0, 1) := by decide +kernel
theorem dL_law_1526 : decode cL_law 1526 = .ok (.laload, 1) := by decide +kernel
theorem dL_law_1527 : decode cL_law 1527 = .ok (.iload 6, 2) := by decide +kernel
theorem dL_law_1529 : decode cL_law 1529 = .ok (.i2l, 1) := by decide +kernel
theorem dL_law_1530 : decode cL_law 1530 = .ok (.lcmp, 1) := by decide +kernel
theorem dL_law_1531 : decode cL_law 1531 = .ok (.ifCond .eq 5, 3) := by decide +kernel
theorem dL_law_1534 : decode cL_law 1534 = .ok (.iconst 0, 1) := by decide +kernel
theorem dL_law_1535 : decode cL_law 1535 = .ok (.ireturn, 1) := by decide +kernel
theorem dL_law_1536 : decode cL_law 1536 = .ok (.goto 299, 3) := by decide +kernel
theorem dL_law_1539 : decode cL_law 1539 = .ok (.aload_n 1, 1) := by decide +kernel
theorem dL_law_1540 : decode cL_law 1540 = .ok (.aload_n 0, 1) := by decide +kernel
theorem dL_law_1541 : decode cL_law 1541 = .ok (.iload 4, 2) := by decide +kernel
theorem dL_law_1543 : decode cL_law 1543 = .ok (.iconst 1, 1) := by decide +kernel
theorem dL_law_1544 : decode cL_law 1544 = .ok (.iadd, 1) := by decide +kernel
theorem dL_law_1545 : decode cL_law 1545 = .ok (.iaload, 1) := by decide +kernel
theorem dL_law_1546 : decode cL_law 1546 = .ok (.aload_n 0, 1) := by decide +kernel
theorem dL_law_1547 : decode cL_law 1547 = .ok (.iload 4, 2) := by decide +kernel
theorem dL_law_1549 : decode cL_law 1549 = .ok (.iconst 2, 1) := by decide +kernel
theorem dL_law_1550 : decode cL_law 1550 = .ok (.iadd, 1) := by decide +kernel
theorem dL_law_1551 : decode cL_law 1551 = .ok (.iaload, 1) := by decide +kernel
theorem dL_law_1552 : decode cL_law 1552 = .ok (.aload_n 0, 1) := by decide +kernel
theorem dL_law_1553 : decode cL_law 1553 = .ok (.iload 4, 2) := by decide +kernel
theorem dL_law_1555 : decode cL_law 1555 = .ok (.iconst 3, 1) := by decide +kernel
theorem dL_law_1556 : decode cL_law 1556 = .ok (.iadd, 1) := by decide +kernel
theorem dL_law_1557 : decode cL_law 1557 = .ok (.iaload, 1) := by decide +kernel
theorem dL_law_1558 : decode cL_law 1558 = .ok (.aload_n 3, 1) := by decide +kernel
theorem dL_law_1559 : decode cL_law 1559 = .ok (.invokestatic 160, 3) := by decide +kernel
theorem dL_law_1562 : decode cL_law 1562 = .ok (.istore 5, 2) := by decide +kernel
theorem dL_law_1564 : decode cL_law 1564 = .ok (.aload_n 2, 1) := by decide +kernel
theorem dL_law_1565 : decode cL_law 1565 = .ok (.aload_n 0, 1) := by decide +kernel
theorem dL_law_1566 : decode cL_law 1566 = .ok (.iload 4, 2) := by decide +kernel
theorem dL_law_1568 : decode cL_law 1568 = .ok (.iconst 1, 1) := by decide +kernel
theorem dL_law_1569 : decode cL_law 1569 = .ok (.iadd, 1) := by decide +kernel
theorem dL_law_1570 : decode cL_law 1570 = .ok (.iaload, 1) := by decide +kernel
theorem dL_law_1571 : decode cL_law 1571 = .ok (.aload_n 0, 1) := by decide +kernel
theorem dL_law_1572 : decode cL_law 1572 = .ok (.iload 4, 2) := by decide +kernel
theorem dL_law_1574 : decode cL_law 1574 = .ok (.iconst 2, 1) := by decide +kernel
theorem dL_law_1575 : decode cL_law 1575 = .ok (.iadd, 1) := by decide +kernel
theorem dL_law_1576 : decode cL_law 1576 = .ok (.iaload, 1) := by decide +kernel
theorem dL_law_1577 : decode cL_law 1577 = .ok (.aload_n 0, 1) := by decide +kernel
theorem dL_law_1578 : decode cL_law 1578 = .ok (.iload 4, 2) := by decide +kernel
theorem dL_law_1580 : decode cL_law 1580 = .ok (.iconst 3, 1) := by decide +kernel
theorem dL_law_1581 : decode cL_law 1581 = .ok (.iadd, 1) := by decide +kernel
theorem dL_law_1582 : decode cL_law 1582 = .ok (.iaload, 1) := by decide +kernel
theorem dL_law_1583 : decode cL_law 1583 = .ok (.invokevirtual 162, 3) := by decide +kernel
theorem dL_law_1586 : decode cL_law 1586 = .ok (.istore 6, 2) := by decide +kernel
theorem dL_law_1588 : decode cL_law 1588 = .ok (.aload_n 2, 1) := by decide +kernel
theorem dL_law_1589 : decode cL_law 1589 = .ok (.invokevirtual 99, 3) := by decide +kernel
theorem dL_law_1592 : decode cL_law 1592 = .ok (.iload 5, 2) := by decide +kernel
theorem dL_law_1594 : decode cL_law 1594 = .ok (.if_icmp .eq 5, 3) := by decide +kernel
theorem dL_law_1597 : decode cL_law 1597 = .ok (.iconst 0, 1) := by decide +kernel
theorem dL_law_1598 : decode cL_law 1598 = .ok (.ireturn, 1) := by decide +kernel
theorem dL_law_1599 : decode cL_law 1599 = .ok (.iload 5, 2) := by decide +kernel
theorem dL_law_1601 : decode cL_law 1601 = .ok (.ifCond .ne 15, 3) := by decide +kernel
theorem dL_law_1604 : decode cL_law 1604 = .ok (.aload_n 3, 1) := by decide +kernel
theorem dL_law_1605 : decode cL_law 1605 = .ok (.iconst 0, 1) := by decide +kernel
theorem dL_law_1606 : decode cL_law 1606 = .ok (.laload, 1) := by decide +kernel
theorem dL_law_1607 : decode cL_law 1607 = .ok (.iload 6, 2) := by decide +kernel
theorem dL_law_1609 : decode cL_law 1609 = .ok (.i2l, 1) := by decide +kernel
theorem dL_law_1610 : decode cL_law 1610 = .ok (.lcmp, 1) := by decide +kernel
theorem dL_law_1611 : decode cL_law 1611 = .ok (.ifCond .eq 5, 3) := by decide +kernel
theorem dL_law_1614 : decode cL_law 1614 = .ok (.iconst 0, 1) := by decide +kernel
theorem dL_law_1615 : decode cL_law 1615 = .ok (.ireturn, 1) := by decide +kernel
theorem dL_law_1616 : decode cL_law 1616 = .ok (.goto 219, 3) := by decide +kernel
theorem dL_law_1619 : decode cL_law 1619 = .ok (.aload_n 1, 1) := by decide +kernel
theorem dL_law_1620 : decode cL_law 1620 = .ok (.aload_n 0, 1) := by decide +kernel
theorem dL_law_1621 : decode cL_law 1621 = .ok (.iload 4, 2) := by decide +kernel
theorem dL_law_1623 : decode cL_law 1623 = .ok (.iconst 1, 1) := by decide +kernel
theorem dL_law_1624 : decode cL_law 1624 = .ok (.iadd, 1) := by decide +kernel
theorem dL_law_1625 : decode cL_law 1625 = .ok (.iaload, 1) := by decide +kernel
theorem dL_law_1626 : decode cL_law 1626 = .ok (.aload_n 0, 1) := by decide +kernel
theorem dL_law_1627 : decode cL_law 1627 = .ok (.iload 4, 2) := by decide +kernel
theorem dL_law_1629 : decode cL_law 1629 = .ok (.iconst 2, 1) := by decide +kernel
theorem dL_law_1630 : decode cL_law 1630 = .ok (.iadd, 1) := by decide +kernel
theorem dL_law_1631 : decode cL_law 1631 = .ok (.iaload, 1) := by decide +kernel
theorem dL_law_1632 : decode cL_law 1632 = .ok (.aload_n 0, 1) := by decide +kernel
theorem dL_law_1633 : decode cL_law 1633 = .ok (.iload 4, 2) := by decide +kernel
theorem dL_law_1635 : decode cL_law 1635 = .ok (.iconst 3, 1) := by decide +kernel
theorem dL_law_1636 : decode cL_law 1636 = .ok (.iadd, 1) := by decide +kernel
theorem dL_law_1637 : decode cL_law 1637 = .ok (.iaload, 1) := by decide +kernel
theorem dL_law_1638 : decode cL_law 1638 = .ok (.aload_n 3, 1) := by decide +kernel
theorem dL_law_1639 : decode cL_law 1639 = .ok (.invokestatic 163, 3) := by decide +kernel
theorem dL_law_1642 : decode cL_law 1642 = .ok (.istore 5, 2) := by decide +kernel
theorem dL_law_1644 : decode cL_law 1644 = .ok (.aload_n 2, 1) := by decide +kernel
theorem dL_law_1645 : decode cL_law 1645 = .ok (.aload_n 0, 1) := by decide +kernel
theorem dL_law_1646 : decode cL_law 1646 = .ok (.iload 4, 2) := by decide +kernel
theorem dL_law_1648 : decode cL_law 1648 = .ok (.iconst 1, 1) := by decide +kernel
theorem dL_law_1649 : decode cL_law 1649 = .ok (.iadd, 1) := by decide +kernel
theorem dL_law_1650 : decode cL_law 1650 = .ok (.iaload, 1) := by decide +kernel
theorem dL_law_1651 : decode cL_law 1651 = .ok (.aload_n 0, 1) := by decide +kernel
theorem dL_law_1652 : decode cL_law 1652 = .ok (.iload 4, 2) := by decide +kernel
theorem dL_law_1654 : decode cL_law 1654 = .ok (.iconst 2, 1) := by decide +kernel
theorem dL_law_1655 : decode cL_law 1655 = .ok (.iadd, 1) := by decide +kernel
theorem dL_law_1656 : decode cL_law 1656 = .ok (.iaload, 1) := by decide +kernel
theorem dL_law_1657 : decode cL_law 1657 = .ok (.aload_n 0, 1) := by decide +kernel
theorem dL_law_1658 : decode cL_law 1658 = .ok (.iload 4, 2) := by decide +kernel
theorem dL_law_1660 : decode cL_law 1660 = .ok (.iconst 3, 1) := by decide +kernel
theorem dL_law_1661 : decode cL_law 1661 = .ok (.iadd, 1) := by decide +kernel
theorem dL_law_1662 : decode cL_law 1662 = .ok (.iaload, 1) := by decide +kernel
theorem dL_law_1663 : decode cL_law 1663 = .ok (.invokevirtual 165, 3) := by decide +kernel
theorem dL_law_1666 : decode cL_law 1666 = .ok (.istore 6, 2) := by decide +kernel
theorem dL_law_1668 : decode cL_law 1668 = .ok (.aload_n 2, 1) := by decide +kernel
theorem dL_law_1669 : decode cL_law 1669 = .ok (.invokevirtual 99, 3) := by decide +kernel
theorem dL_law_1672 : decode cL_law 1672 = .ok (.iload 5, 2) := by decide +kernel
theorem dL_law_1674 : decode cL_law 1674 = .ok (.if_icmp .eq 5, 3) := by decide +kernel
theorem dL_law_1677 : decode cL_law 1677 = .ok (.iconst 0, 1) := by decide +kernel
theorem dL_law_1678 : decode cL_law 1678 = .ok (.ireturn, 1) := by decide +kernel
theorem dL_law_1679 : decode cL_law 1679 = .ok (.iload 5, 2) := by decide +kernel
theorem dL_law_1681 : decode cL_law 1681 = .ok (.ifCond .ne 15, 3) := by decide +kernel
theorem dL_law_1684 : decode cL_law 1684 = .ok (.aload_n 3, 1) := by decide +kernel
theorem dL_law_1685 : decode cL_law 1685 = .ok (.iconst 0, 1) := by decide +kernel
theorem dL_law_1686 : decode cL_law 1686 = .ok (.laload, 1) := by decide +kernel
theorem dL_law_1687 : decode cL_law 1687 = .ok (.iload 6, 2) := by decide +kernel
theorem dL_law_1689 : decode cL_law 1689 = .ok (.i2l, 1) := by decide +kernel
theorem dL_law_1690 : decode cL_law 1690 = .ok (.lcmp, 1) := by decide +kernel
theorem dL_law_1691 : decode cL_law 1691 = .ok (.ifCond .eq 5, 3) := by decide +kernel
theorem dL_law_1694 : decode cL_law 1694 = .ok (.iconst 0, 1) := by decide +kernel
theorem dL_law_1695 : decode cL_law 1695 = .ok (.ireturn, 1) := by decide +kernel
theorem dL_law_1696 : decode cL_law 1696 = .ok (.goto 139, 3) := by decide +kernel
theorem dL_law_1699 : decode cL_law 1699 = .ok (.aload_n 1, 1) := by decide +kernel
theorem dL_law_1700 : decode cL_law 1700 = .ok (.aload_n 0, 1) := by decide +kernel
theorem dL_law_1701 : decode cL_law 1701 = .ok (.iload 4, 2) := by decide +kernel
theorem dL_law_1703 : decode cL_law 1703 = .ok (.iconst 1, 1) := by decide +kernel
theorem dL_law_1704 : decode cL_law 1704 = .ok (.iadd, 1) := by decide +kernel
theorem dL_law_1705 : decode cL_law 1705 = .ok (.iaload, 1) := by decide +kernel
theorem dL_law_1706 : decode cL_law 1706 = .ok (.aload_n 0, 1) := by decide +kernel
theorem dL_law_1707 : decode cL_law 1707 = .ok (.iload 4, 2) := by decide +kernel
theorem dL_law_1709 : decode cL_law 1709 = .ok (.iconst 2, 1) := by decide +kernel
theorem dL_law_1710 : decode cL_law 1710 = .ok (.iadd, 1) := by decide +kernel
theorem dL_law_1711 : decode cL_law 1711 = .ok (.iaload, 1) := by decide +kernel
theorem dL_law_1712 : decode cL_law 1712 = .ok (.aload_n 3, 1) := by decide +kernel
theorem dL_law_1713 : decode cL_law 1713 = .ok (.invokestatic 166, 3) := by decide +kernel
theorem dL_law_1716 : decode cL_law 1716 = .ok (.istore 5, 2) := by decide +kernel
theorem dL_law_1718 : decode cL_law 1718 = .ok (.aload_n 2, 1) := by decide +kernel
theorem dL_law_1719 : decode cL_law 1719 = .ok (.aload_n 0, 1) := by decide +kernel
theorem dL_law_1720 : decode cL_law 1720 = .ok (.iload 4, 2) := by decide +kernel
theorem dL_law_1722 : decode cL_law 1722 = .ok (.iconst 1, 1) := by decide +kernel
theorem dL_law_1723 : decode cL_law 1723 = .ok (.iadd, 1) := by decide +kernel
theorem dL_law_1724 : decode cL_law 1724 = .ok (.iaload, 1) := by decide +kernel
theorem dL_law_1725 : decode cL_law 1725 = .ok (.aload_n 0, 1) := by decide +kernel
theorem dL_law_1726 : decode cL_law 1726 = .ok (.iload 4, 2) := by decide +kernel
theorem dL_law_1728 : decode cL_law 1728 = .ok (.iconst 2, 1) := by decide +kernel
theorem dL_law_1729 : decode cL_law 1729 = .ok (.iadd, 1) := by decide +kernel
theorem dL_law_1730 : decode cL_law 1730 = .ok (.iaload, 1) := by decide +kernel
theorem dL_law_1731 : decode cL_law 1731 = .ok (.invokevirtual 168, 3) := by decide +kernel
theorem dL_law_1734 : decode cL_law 1734 = .ok (.istore 6, 2) := by decide +kernel
theorem dL_law_1736 : decode cL_law 1736 = .ok (.aload_n 2, 1) := by decide +kernel
theorem dL_law_1737 : decode cL_law 1737 = .ok (.invokevirtual 99, 3) := by decide +kernel
theorem dL_law_1740 : decode cL_law 1740 = .ok (.iload 5, 2) := by decide +kernel
theorem dL_law_1742 : decode cL_law 1742 = .ok (.if_icmp .eq 5, 3) := by decide +kernel
theorem dL_law_1745 : decode cL_law 1745 = .ok (.iconst 0, 1) := by decide +kernel
theorem dL_law_1746 : decode cL_law 1746 = .ok (.ireturn, 1) := by decide +kernel
theorem dL_law_1747 : decode cL_law 1747 = .ok (.iload 5, 2) := by decide +kernel
theorem dL_law_1749 : decode cL_law 1749 = .ok (.ifCond .ne 15, 3) := by decide +kernel
theorem dL_law_1752 : decode cL_law 1752 = .ok (.aload_n 3, 1) := by decide +kernel
theorem dL_law_1753 : decode cL_law 1753 = .ok (.iconst 0, 1) := by decide +kernel
theorem dL_law_1754 : decode cL_law 1754 = .ok (.laload, 1) := by decide +kernel
theorem dL_law_1755 : decode cL_law 1755 = .ok (.iload 6, 2) := by decide +kernel
theorem dL_law_1757 : decode cL_law 1757 = .ok (.i2l, 1) := by decide +kernel
theorem dL_law_1758 : decode cL_law 1758 = .ok (.lcmp, 1) := by decide +kernel
theorem dL_law_1759 : decode cL_law 1759 = .ok (.ifCond .eq 5, 3) := by decide +kernel
theorem dL_law_1762 : decode cL_law 1762 = .ok (.iconst 0, 1) := by decide +kernel
theorem dL_law_1763 : decode cL_law 1763 = .ok (.ireturn, 1) := by decide +kernel
theorem dL_law_1764 : decode cL_law 1764 = .ok (.goto 71, 3) := by decide +kernel
theorem dL_law_1767 : decode cL_law 1767 = .ok (.aload_n 1, 1) := by decide +kernel
theorem dL_law_1768 : decode cL_law 1768 = .ok (.aload_n 0, 1) := by decide +kernel
theorem dL_law_1769 : decode cL_law 1769 = .ok (.iload 4, 2) := by decide +kernel
theorem dL_law_1771 : decode cL_law 1771 = .ok (.iconst 1, 1) := by decide +kernel
theorem dL_law_1772 : decode cL_law 1772 = .ok (.iadd, 1) := by decide +kernel
theorem dL_law_1773 : decode cL_law 1773 = .ok (.iaload, 1) := by decide +kernel
theorem dL_law_1774 : decode cL_law 1774 = .ok (.aload_n 0, 1) := by decide +kernel
theorem dL_law_1775 : decode cL_law 1775 = .ok (.iload 4, 2) := by decide +kernel
theorem dL_law_1777 : decode cL_law 1777 = .ok (.iconst 2, 1) := by decide +kernel
theorem dL_law_1778 : decode cL_law 1778 = .ok (.iadd, 1) := by decide +kernel
theorem dL_law_1779 : decode cL_law 1779 = .ok (.iaload, 1) := by decide +kernel
theorem dL_law_1780 : decode cL_law 1780 = .ok (.aload_n 3, 1) := by decide +kernel
theorem dL_law_1781 : decode cL_law 1781 = .ok (.invokestatic 169, 3) := by decide +kernel
theorem dL_law_1784 : decode cL_law 1784 = .ok (.istore 5, 2) := by decide +kernel
theorem dL_law_1786 : decode cL_law 1786 = .ok (.aload_n 2, 1) := by decide +kernel
theorem dL_law_1787 : decode cL_law 1787 = .ok (.aload_n 0, 1) := by decide +kernel
theorem dL_law_1788 : decode cL_law 1788 = .ok (.iload 4, 2) := by decide +kernel
theorem dL_law_1790 : decode cL_law 1790 = .ok (.iconst 1, 1) := by decide +kernel
theorem dL_law_1791 : decode cL_law 1791 = .ok (.iadd, 1) := by decide +kernel
theorem dL_law_1792 : decode cL_law 1792 = .ok (.iaload, 1) := by decide +kernel
theorem dL_law_1793 : decode cL_law 1793 = .ok (.aload_n 0, 1) := by decide +kernel
theorem dL_law_1794 : decode cL_law 1794 = .ok (.iload 4, 2) := by decide +kernel
theorem dL_law_1796 : decode cL_law 1796 = .ok (.iconst 2, 1) := by decide +kernel
theorem dL_law_1797 : decode cL_law 1797 = .ok (.iadd, 1) := by decide +kernel
theorem dL_law_1798 : decode cL_law 1798 = .ok (.iaload, 1) := by decide +kernel
theorem dL_law_1799 : decode cL_law 1799 = .ok (.invokevirtual 171, 3) := by decide +kernel
theorem dL_law_1802 : decode cL_law 1802 = .ok (.istore 6, 2) := by decide +kernel
theorem dL_law_1804 : decode cL_law 1804 = .ok (.aload_n 2, 1) := by decide +kernel
theorem dL_law_1805 : decode cL_law 1805 = .ok (.invokevirtual 99, 3) := by decide +kernel
theorem dL_law_1808 : decode cL_law 1808 = .ok (.iload 5, 2) := by decide +kernel
theorem dL_law_1810 : decode cL_law 1810 = .ok (.if_icmp .eq 5, 3) := by decide +kernel
theorem dL_law_1813 : decode cL_law 1813 = .ok (.iconst 0, 1) := by decide +kernel
theorem dL_law_1814 : decode cL_law 1814 = .ok (.ireturn, 1) := by decide +kernel
theorem dL_law_1815 : decode cL_law 1815 = .ok (.iload 5, 2) := by decide +kernel
theorem dL_law_1817 : decode cL_law 1817 = .ok (.ifCond .ne 15, 3) := by decide +kernel
theorem dL_law_1820 : decode cL_law 1820 = .ok (.aload_n 3, 1) := by decide +kernel
theorem dL_law_1821 : decode cL_law 1821 = .ok (.iconst 0, 1) := by decide +kernel
theorem dL_law_1822 : decode cL_law 1822 = .ok (.laload, 1) := by decide +kernel
theorem dL_law_1823 : decode cL_law 1823 = .ok (.iload 6, 2) := by decide +kernel
theorem dL_law_1825 : decode cL_law 1825 = .ok (.i2l, 1) := by decide +kernel
theorem dL_law_1826 : decode cL_law 1826 = .ok (.lcmp, 1) := by decide +kernel
theorem dL_law_1827 : decode cL_law 1827 = .ok (.ifCond .eq 5, 3) := by decide +kernel
theorem dL_law_1830 : decode cL_law 1830 = .ok (.iconst 0, 1) := by decide +kernel
theorem dL_law_1831 : decode cL_law 1831 = .ok (.ireturn, 1) := by decide +kernel
theorem dL_law_1832 : decode cL_law 1832 = .ok (.goto 3, 3) := by decide +kernel
theorem dL_law_1835 : decode cL_law 1835 = .ok (.iinc 4 6, 3) := by decide +kernel
theorem dL_law_1838 : decode cL_law 1838 = .ok (.goto (-1815), 3) := by decide +kernel
theorem dL_law_1841 : decode cL_law 1841 = .ok (.iconst 1, 1) := by decide +kernel
theorem dL_law_1842 : decode cL_law 1842 = .ok (.ireturn, 1) := by decide +kernel
end
section
/-! THE CLAIM OUT OF ONE WALK OF THE LAW'S BODY. Your part is whole_start (and what it stands on); all else here is the same for every law, but numbers. -/
def R_law : String := "PortolanHallLaw"
def lw_P (b : Addr) (xs : List Int32) (args : Array Value) (s : State) : Prop := args = #[.ref b] ∧ s.IntsAt b xs ∧ xs.length ≤ 3072 ∧ (Jvm.Cond.and given_1 narrow_1).before args s = true
def lw_Q (_ : Array Value) (s : State) (o : Outcome) (t : State) : Prop := o = .returned (some (.int 1)) ∧ Framed s o t [] 601024 7293034
def lw_Z (below : List Frame) (a : Array Value) (s : State) : State → Prop := fun t => ∃ o, t.status = .running ∧ Ended t below o ∧ lw_Q a s o t
/-- the law's own end, with 1 on the stack, nothing written that was there before, its room as the claim has it -/
theorem lw_ret {p : Program} {l : Launch} {e : Env} {s : State} {m : MethodId} {below : List Frame} {meth : Method} {c : Code} {b : Nat} (hx : p.tables.exec = Jvm.exec) (hb : c.code = code) (hr : meth.sig.returnType = ret) (hlocks : meth.locks = false) {pc : Nat} {H : Heap} {ls : Array Slot} (hdg : decode code pc = .ok (.ireturn, 1)) : W p l e room_1 s m #[Value.ref b] below meth c H [] 601024 7293034 (lw_Z below #[Value.ref b] s) (F0 m pc ls [.int 1]) := by
  intro T hT X
  obtain ⟨fs, hret, hrun, hended, hW, hframe⟩ := X.leave (v := some (.int 1)) (hlocks := hlocks) (fun h => by rw [hr] at h; cases h)
  have hmeth' : T.vm.method? m = some meth := X.method'
  refine ⟨T.setFrames fs, ?_, .returned (some (.int 1)), hrun, hended, rfl, ⟨_, rfl⟩, hW, hframe⟩
  jvm_step X.here [X.here.top, hx, hb, hdg, hmeth', hr, ret, narrow_b1]
  (try refine ⟨rfl, ?_⟩); (try refine ⟨rfl, ?_⟩)
  first | (intro acts; rw [hret _ acts rfl rfl rfl]) | rw [hret _ _ rfl rfl rfl]
  exact Steps.refl _
/-- what holds at the law's entry: the machine, the code, the tables' words (any of lw_tbl by 'hts w (by decide +kernel)'), the script of L ints xs at the cell b, what the Statement gives of the start (any of its parts by flat_of_before) -/
def lw_At (p : Program) (s : State) (m : MethodId) (meth : Method) (c : Code) (b L : Nat) (xs : Nat → Int32) : Prop :=
  p.tables.exec = Jvm.exec ∧ c.code = code ∧ meth.sig.returnType = ret ∧ c.maxLocals = 7 ∧ s.vm.findClass R_law = some m.cls ∧ (∀ w ∈ lw_tbl, w.before #[Value.ref b] s = true) ∧ va_X b L xs s s.heap ∧ b < s.heap.size ∧ meth.locks = false ∧ (Jvm.Cond.and given_1 narrow_1).before #[Value.ref b] s = true
end
section
/-! ===== BEGIN a constructor that throws (launches without stack traces) ===== -/
section VXIA
variable {p : Program} {l : Launch} {e : Env} {R : Room} {s : State} {m : MethodId} {args : Array Value} {below : List Frame} {meth : Method} {c : Code} {T : State} {locs : List Loc} {cells slots : Nat}
theorem vx_callI (X : Stand p l e R s m args below meth c T locs cells slots) (hexec : p.tables.exec = Jvm.exec) {own : String} {index : Nat} {y : MethodName} {bytes : ByteArray} {maxL : Nat}
    (hown : s.vm.findClass own = some m.cls) (hy1 : y.name = "<init>") (hlink : (Cond.methodLink own index y).before args s = true) (hinst : (Cond.instanceMethod y).before args s = true)
    (hcode : (Cond.code y bytes maxL none).before args s = true) (hy : y.cls ≠ "java/lang/invoke/MethodHandle" ∧ y.cls ≠ "java/lang/invoke/VarHandle")
    {W9 : Nat} {Pre : Pt → Array Value → Prop} {Post : Pt → Array Value → Option Value → Pt → Prop} {PostX : Pt → Array Value → Addr → Pt → Prop} (hK : vx_Back l R p e below s args y 3 W9 Pre Post PostX)
    {g : JFrame} (hg : g.method = m) (hsize : g.locals.size = c.maxLocals) {a : Addr} {argsL rest : List Value} (hlen : ∀ sig, parseMethodDescriptor y.desc = some sig → argsL.length = sig.parameters.length)
    (hstack : g.stack = argsL.reverse ++ .ref a :: rest) (hW : 2 * g.monitorRoom + (rest.map fun v => v.category).sum ≤ W9) (hdg : decode c.code g.pc = .ok (.invokespecial index, 3))
    (hpre : ∀ vm₁, s.WarmedH vm₁ → Pre ⟨T.setVm vm₁, locs, cells, slots⟩ (Value.ref a :: argsL).toArray) :
    (∃ (v : Option Value) (vm₁ : Vm) (B : Pt), s.WarmedH vm₁ ∧ Stand p l e R s m args below meth c B.U B.locs B.cells B.slots ∧ Post ⟨T.setVm vm₁, locs, cells, slots⟩ (Value.ref a :: argsL).toArray v B ∧
      ∀ target, Steps p.tables e below (B.U.setTop { g with pc := g.pc + 3, stack := v.toList ++ rest }) target → Steps p.tables e below (T.setTop g) target) ∨
    (∃ (q : Addr) (vm₁ : Vm) (B : Pt), s.WarmedH vm₁ ∧ Stand p l e R s m args below meth c B.U B.locs B.cells B.slots ∧ PostX ⟨T.setVm vm₁, locs, cells, slots⟩ (Value.ref a :: argsL).toArray q B ∧
      Steps p.tables e below (T.setTop g) ((B.U.setTop { g with stack := rest }).pushFrame (.throwing q))) := by
  subst hg
  have hpl : e.platform.magicAccessors = ({} : Platform).magicAccessors := by rw [X.admits.platform]
  obtain ⟨mk, methM, cM, kP, vm₁, hnamed, hmethM, hcodeM, -, hlocalsM, -, hkP, -, hW₁, hstep₁⟩ := Steps.initColdArgs (e := e) X.here hexec X.warmed hpl hown hy1 hy hlink hinst hcode (f := g) rfl hlen hstack hdg
  have X₁ := X.noted hW₁
  rcases hK g.method meth c ⟨T.setVm vm₁, locs, cells, slots⟩ { g with stack := rest } (.invokespecial index) mk (Value.ref a :: argsL).toArray X₁ rfl hsize hdg hW (X₁.named hnamed) (hpre vm₁ X₁.warmed) with ⟨v, B, X', hpost, hsteps⟩ | ⟨q, B, X', hpost, hsteps⟩
  · exact Or.inl ⟨v, vm₁, B, X₁.warmed, X', hpost, fun target h => hstep₁ _ fun acts => by rw [doInvoke_state]; exact hsteps.trans h⟩
  · exact Or.inr ⟨q, vm₁, B, X₁.warmed, X', hpost, hstep₁ _ fun acts => by rw [doInvoke_state]; exact hsteps⟩
end VXIA
section VXIB
variable {p : Program} {l : Launch} {e : Env} {R : Room} {s : State} {m : MethodId} {args : Array Value} {below : List Frame} {meth : Method} {c : Code} {H : Heap} {locs : List Loc} {cells slots : Nat}
variable {y : MethodName} {bytes cc : ByteArray} {maxL nL mc ms n index : Nat} {ret : Option FieldType} {ws : List Cond} {rm : Room} {Pc : Array Value → State → Prop} {Qc : Array Value → State → Outcome → State → Prop} {XC : String → State → State → Prop} {free : Addr → Prop} {Ts : List Cond} {own C : String} {b : Addr} {As rest : List Value} {g : JFrame}
theorem vx_runI (S : CallFix p m c cc nL s args Ts own) (hM : vx_Met l y ws rm Pc Qc XC mc ms free) (cw : CallB R s args own index y bytes maxL none ws rm mc ms n ∧ y.name = "<init>" ∧ (Cond.instanceMethod y).before args s = true) (hp : PreS s H Pc (.ref b :: As))
    (hg : g.method = m) (hn : As.length = n) (hsize : g.locals.size = nL) (hstack : g.stack = As.reverse ++ .ref b :: rest) (hW : 2 * g.monitorRoom + (rest.map fun v => v.category).sum ≤ 8) (hdg : decode cc g.pc = .ok (.invokespecial index, 3)) (hf : cells + mc ≤ R.cells ∧ slots + ms ≤ R.slots) :
    vx_Run p l e R s m args below meth c H locs cells slots mc ms g rest (Qc (Value.ref b :: As).toArray) XC free := by
  have hK : vx_Back l R p e below s args y 3 8 (PreOf R mc ms Pc) (PostOf Qc mc ms free) (vx_Post XC mc ms free) := vx_callBack cw.1 hM hp.1
  obtain ⟨⟨-, -, -, -, -, -, hcode, -, hy, hlen, hl⟩, hy1, hin⟩ := cw
  obtain ⟨hx, hb, hml, ho, -⟩ := S
  have hPc := hp.2
  intro T hT X
  rcases vx_callI X hx (bytes := bytes) (maxL := maxL) ho hy1 hl hin hcode hy hK hg (hsize.trans hml.symm) (a := b) (argsL := As) (rest := rest) (fun sig h => hn.trans (hlen sig h)) hstack hW (by rw [hb]; exact hdg)
    (fun vm₁ hW₁ => ⟨hf.1, hf.2, hPc (T.setVm vm₁) hT hW₁⟩) with ⟨v, vm₁, ⟨U', l2, c2, s2⟩, hW₁, X', ⟨g', mk, t, L, e1, e2, hq, h1, hL, h2, h3⟩, st⟩ | ⟨q, vm₁, ⟨U', l2, c2, s2⟩, hW₁, X', ⟨g', mk, t, L, E, ce, e1, e2, hq, hce, hcv, hcl, h1, hL, h2, h3⟩, st⟩
  · dsimp only [Pt.U, Pt.locs, Pt.cells, Pt.slots] at X' e1 e2 h1 h2 h3 st
    subst h1; subst h2; subst h3
    exact Or.inl ⟨v, (T.setVm vm₁).calling g' mk (Value.ref b :: As).toArray, t, U', L, hT, X', hL, e1, e2, hq, st⟩
  · dsimp only [Pt.U, Pt.locs, Pt.cells, Pt.slots] at X' e1 e2 h1 h2 h3 st hcl
    subst h1; subst h2; subst h3
    exact Or.inr ⟨q, (T.setVm vm₁).calling g' mk (Value.ref b :: As).toArray, t, U', L, E, ce, hT, X', hL, e1, e2, hq, hce, hcv, vx_cls hW₁ hcl, st⟩
end VXIB
/-! ===== END ===== -/
/-! ===== BEGIN a private constructor of a nest mate that throws ===== -/
section VXIC
variable {p : Program} {l : Launch} {e : Env} {R : Room} {s : State} {m : MethodId} {args : Array Value} {below : List Frame} {meth : Method} {c : Code} {T : State} {locs : List Loc} {cells slots : Nat}
theorem vx_callIN (X : Stand p l e R s m args below meth c T locs cells slots) (hexec : p.tables.exec = Jvm.exec) {own : String} {index : Nat} {host : String} {y : MethodName} {bytes : ByteArray} {maxL : Nat}
    (hown : s.vm.findClass own = some m.cls) (hy1 : y.name = "<init>") (hlink : (Cond.methodLinkNest own index y host).before args s = true) (hinst : (Cond.instanceMethod y).before args s = true)
    (hcode : (Cond.code y bytes maxL none).before args s = true) (hy : y.cls ≠ "java/lang/invoke/MethodHandle" ∧ y.cls ≠ "java/lang/invoke/VarHandle")
    {W9 : Nat} {Pre : Pt → Array Value → Prop} {Post : Pt → Array Value → Option Value → Pt → Prop} {PostX : Pt → Array Value → Addr → Pt → Prop} (hK : vx_Back l R p e below s args y 3 W9 Pre Post PostX)
    {g : JFrame} (hg : g.method = m) (hsize : g.locals.size = c.maxLocals) {a : Addr} {argsL rest : List Value} (hlen : ∀ sig, parseMethodDescriptor y.desc = some sig → argsL.length = sig.parameters.length)
    (hstack : g.stack = argsL.reverse ++ .ref a :: rest) (hW : 2 * g.monitorRoom + (rest.map fun v => v.category).sum ≤ W9) (hdg : decode c.code g.pc = .ok (.invokespecial index, 3))
    (hpre : ∀ vm₁, s.WarmedH vm₁ → Pre ⟨T.setVm vm₁, locs, cells, slots⟩ (Value.ref a :: argsL).toArray) :
    (∃ (v : Option Value) (vm₁ : Vm) (B : Pt), s.WarmedH vm₁ ∧ Stand p l e R s m args below meth c B.U B.locs B.cells B.slots ∧ Post ⟨T.setVm vm₁, locs, cells, slots⟩ (Value.ref a :: argsL).toArray v B ∧
      ∀ target, Steps p.tables e below (B.U.setTop { g with pc := g.pc + 3, stack := v.toList ++ rest }) target → Steps p.tables e below (T.setTop g) target) ∨
    (∃ (q : Addr) (vm₁ : Vm) (B : Pt), s.WarmedH vm₁ ∧ Stand p l e R s m args below meth c B.U B.locs B.cells B.slots ∧ PostX ⟨T.setVm vm₁, locs, cells, slots⟩ (Value.ref a :: argsL).toArray q B ∧
      Steps p.tables e below (T.setTop g) ((B.U.setTop { g with stack := rest }).pushFrame (.throwing q))) := by
  subst hg
  have hpl : e.platform.magicAccessors = ({} : Platform).magicAccessors := by rw [X.admits.platform]
  obtain ⟨mk, methM, cM, kP, vm₁, hnamed, hmethM, hcodeM, -, hlocalsM, -, hkP, -, hW₁, hstep₁⟩ := Steps.initColdArgsNest (e := e) X.here hexec X.warmed hpl hown hy1 hy hlink hinst hcode (f := g) rfl hlen hstack hdg
  have X₁ := X.noted hW₁
  rcases hK g.method meth c ⟨T.setVm vm₁, locs, cells, slots⟩ { g with stack := rest } (.invokespecial index) mk (Value.ref a :: argsL).toArray X₁ rfl hsize hdg hW (X₁.named hnamed) (hpre vm₁ X₁.warmed) with ⟨v, B, X', hpost, hsteps⟩ | ⟨q, B, X', hpost, hsteps⟩
  · exact Or.inl ⟨v, vm₁, B, X₁.warmed, X', hpost, fun target h => hstep₁ _ fun acts => by rw [doInvoke_state]; exact hsteps.trans h⟩
  · exact Or.inr ⟨q, vm₁, B, X₁.warmed, X', hpost, hstep₁ _ fun acts => by rw [doInvoke_state]; exact hsteps⟩
end VXIC
section VXID
variable {p : Program} {l : Launch} {e : Env} {R : Room} {s : State} {m : MethodId} {args : Array Value} {below : List Frame} {meth : Method} {c : Code} {H : Heap} {locs : List Loc} {cells slots : Nat}
theorem vx_runIN {y : MethodName} {bytes cc : ByteArray} {maxL nL mc ms n index : Nat} {ws : List Cond} {rm : Room} {Pc : Array Value → State → Prop} {Qc : Array Value → State → Outcome → State → Prop} {XC : String → State → State → Prop} {free : Addr → Prop} {Ts : List Cond} {own host : String} {b : Addr} {As rest : List Value} {g : JFrame}
    (S : CallFix p m c cc nL s args Ts own) (hM : vx_Met l y ws rm Pc Qc XC mc ms free) (cw : va_CN R s args own index y host bytes maxL none ws rm mc ms n ∧ y.name = "<init>" ∧ (Cond.instanceMethod y).before args s = true) (hp : PreS s H Pc (.ref b :: As))
    (hg : g.method = m) (hn : As.length = n) (hsize : g.locals.size = nL) (hstack : g.stack = As.reverse ++ .ref b :: rest) (hW : 2 * g.monitorRoom + (rest.map fun v => v.category).sum ≤ 8) (hdg : decode cc g.pc = .ok (.invokespecial index, 3)) (hf : cells + mc ≤ R.cells ∧ slots + ms ≤ R.slots) :
    vx_Run p l e R s m args below meth c H locs cells slots mc ms g rest (Qc (Value.ref b :: As).toArray) XC free := by
  obtain ⟨⟨⟨hrc, hrs, hfr, hlo, hws, hcw⟩, hcode, hini, hy, hlen, hl⟩, hx1, hx2⟩ := cw
  have hK : vx_Back l R p e below s args y 3 8 (PreOf R mc ms Pc) (PostOf Qc mc ms free) (vx_Post XC mc ms free) := vx_back (bytes := bytes) (maxL := maxL) (ret := none) hM hp.1 hrc hrs hfr hlo hws hcw (fun a' U hW => word_at hW (Or.inl (by first | rfl | simp [Cond.onTables, Cond.keeps, Cond.steady])) hini)
  obtain ⟨hx, hb, hml, ho, -⟩ := S
  have hPc := hp.2
  intro T hT X
  rcases vx_callIN X hx (bytes := bytes) (maxL := maxL) ho hx1 hl hx2 hcode hy hK hg (hsize.trans hml.symm) (a := b) (argsL := As) (rest := rest) (fun sig h => hn.trans (hlen sig h)) hstack hW (by rw [hb]; exact hdg)
    (fun vm₁ hW₁ => ⟨hf.1, hf.2, hPc (T.setVm vm₁) hT hW₁⟩) with ⟨v, vm₁, ⟨U', l2, c2, s2⟩, hW₁, X', ⟨g', mk, t, L, e1, e2, hq, h1, hL, h2, h3⟩, st⟩ | ⟨q, vm₁, ⟨U', l2, c2, s2⟩, hW₁, X', ⟨g', mk, t, L, E, ce, e1, e2, hq, hce, hcv, hcl, h1, hL, h2, h3⟩, st⟩
  · dsimp only [Pt.U, Pt.locs, Pt.cells, Pt.slots] at X' e1 e2 h1 h2 h3 st
    subst h1; subst h2; subst h3
    exact Or.inl ⟨v, (T.setVm vm₁).calling g' mk (Value.ref b :: As).toArray, t, U', L, hT, X', hL, e1, e2, hq, st⟩
  · dsimp only [Pt.U, Pt.locs, Pt.cells, Pt.slots] at X' e1 e2 h1 h2 h3 st hcl
    subst h1; subst h2; subst h3
    exact Or.inr ⟨q, (T.setVm vm₁).calling g' mk (Value.ref b :: As).toArray, t, U', L, E, ce, hT, X', hL, e1, e2, hq, hce, hcv, vx_cls hW₁ hcl, st⟩
end VXID
/-! ===== END ===== -/
/-! ===== BEGIN a private method of a nest mate that may throw (follows va_callVN, va_callSN, va_runVN, va_runSN) ===== -/
section
variable {p : Program} {l : Launch} {e : Env} {R : Room} {s : State} {m : MethodId} {args : Array Value} {below : List Frame} {meth : Method} {c : Code} {H : Heap} {locs : List Loc} {cells slots : Nat}
variable {T : State}
theorem vx_callVN (X : Stand p l e R s m args below meth c T locs cells slots) (hexec : p.tables.exec = Jvm.exec) {own C : String} {index : Nat} {host : String} {y : MethodName} {bytes : ByteArray} {maxL : Nat} {ret : Option FieldType}
    (hown : s.vm.findClass own = some m.cls) (hlink : (Cond.methodLinkNest own index y host).before args s = true) (hinst : (Cond.instanceMethod y).before args s = true) (hsel : (Cond.selects C y y).before args s = true)
    (hcode : (Cond.code y bytes maxL ret).before args s = true) (hy : y.cls ≠ "java/lang/invoke/MethodHandle" ∧ y.cls ≠ "java/lang/invoke/VarHandle")
    {W : Nat} {Pre : Pt → Array Value → Prop} {Post : Pt → Array Value → Option Value → Pt → Prop} {PostX : Pt → Array Value → Addr → Pt → Prop} (hK : vx_Back l R p e below s args y 3 W Pre Post PostX)
    {b : Addr} {cellB : Cell} (hcell : T.heap[b]? = some cellB) (hobj : cellB.vm.isStatics = false) (hcls : s.vm.findClass C = some cellB.cls)
    {g : JFrame} (hg : g.method = m) (hsize : g.locals.size = c.maxLocals) {argsL rest : List Value} (hlen : ∀ sig, parseMethodDescriptor y.desc = some sig → argsL.length = sig.parameters.length)
    (hstack : g.stack = argsL.reverse ++ .ref b :: rest) (hW : 2 * g.monitorRoom + (rest.map fun v => v.category).sum ≤ W) (hdg : decode c.code g.pc = .ok (.invokevirtual index, 3))
    (hpre : ∀ vm₁, s.WarmedH vm₁ → Pre ⟨T.setVm vm₁, locs, cells, slots⟩ (Value.ref b :: argsL).toArray) :
    (∃ (v : Option Value) (vm₁ : Vm) (B : Pt), s.WarmedH vm₁ ∧ Stand p l e R s m args below meth c B.U B.locs B.cells B.slots ∧ Post ⟨T.setVm vm₁, locs, cells, slots⟩ (Value.ref b :: argsL).toArray v B ∧
      ∀ target, Steps p.tables e below (B.U.setTop { g with pc := g.pc + 3, stack := v.toList ++ rest }) target → Steps p.tables e below (T.setTop g) target) ∨
    (∃ (q : Addr) (vm₁ : Vm) (B : Pt), s.WarmedH vm₁ ∧ Stand p l e R s m args below meth c B.U B.locs B.cells B.slots ∧ PostX ⟨T.setVm vm₁, locs, cells, slots⟩ (Value.ref b :: argsL).toArray q B ∧
      Steps p.tables e below (T.setTop g) ((B.U.setTop { g with stack := rest }).pushFrame (.throwing q))) := by
  obtain ⟨mk, methM, hnamed, hmethM, hstM, habM⟩ := Cond.instanceMethod_spec hinst
  obtain ⟨methM', cM, hmethM', -, -, -, -, -, -, hsigM⟩ := Cond.code_spec hnamed hcode
  cases hmethM.symm.trans hmethM'
  obtain ⟨c2, r2, m2, q1, q2, q3, q4, kP, hkP, hkPi⟩ := Cond.selects_spec hsel
  cases hcls.symm.trans q1
  cases (State.methodFound?_of_named hnamed hy).symm.trans q2
  cases hnamed.symm.trans q3
  have hselP : selectMethod e.platform s.vm cellB.cls mk = .method mk := by rw [Launch.admits_selectMethod X.admits]; exact q4
  obtain ⟨vm₁, X₁, hstep₁⟩ := X.invokevirtualNest hexec hown hlink hnamed hmethM hstM hkP hkPi hy (a := b) (cell := cellB) hcell
    (fun z h => by rw [h] at hobj; cases hobj) hselP hmethM habM hkP hkPi (g := g) hg (argsL := argsL) (rest := rest) (hlen _ hsigM) hstack hdg
  rcases hK m meth c ⟨T.setVm vm₁, locs, cells, slots⟩ { g with stack := rest } (.invokevirtual index) mk (Value.ref b :: argsL).toArray X₁ hg hsize hdg hW (X₁.named hnamed) (hpre vm₁ X₁.warmed) with ⟨v, B, X', hpost, hsteps⟩ | ⟨q, B, X', hpost, hsteps⟩
  · exact Or.inl ⟨v, vm₁, B, X₁.warmed, X', hpost, fun target h => hstep₁ _ fun acts => by rw [doInvoke_state]; exact hsteps.trans h⟩
  · exact Or.inr ⟨q, vm₁, B, X₁.warmed, X', hpost, hstep₁ _ fun acts => by rw [doInvoke_state]; exact hsteps⟩
theorem vx_callSN (X : Stand p l e R s m args below meth c T locs cells slots) (hexec : p.tables.exec = Jvm.exec) {own : String} {index : Nat} {host : String} {y : MethodName} {bytes : ByteArray} {maxL : Nat} {ret : Option FieldType}
    (hown : s.vm.findClass own = some m.cls) (hlink : (Cond.methodLinkNest own index y host).before args s = true) (hstat : (Cond.static y).before args s = true) (hinit : (Cond.initialized y.cls).before args s = true)
    (hcode : (Cond.code y bytes maxL ret).before args s = true) (hy : y.cls ≠ "java/lang/invoke/MethodHandle" ∧ y.cls ≠ "java/lang/invoke/VarHandle")
    {W : Nat} {Pre : Pt → Array Value → Prop} {Post : Pt → Array Value → Option Value → Pt → Prop} {PostX : Pt → Array Value → Addr → Pt → Prop} (hK : vx_Back l R p e below s args y 3 W Pre Post PostX)
    {g : JFrame} (hg : g.method = m) (hsize : g.locals.size = c.maxLocals) {argsL rest : List Value} (hlen : ∀ sig, parseMethodDescriptor y.desc = some sig → argsL.length = sig.parameters.length)
    (hstack : g.stack = argsL.reverse ++ rest) (hW : 2 * g.monitorRoom + (rest.map fun v => v.category).sum ≤ W) (hdg : decode c.code g.pc = .ok (.invokestatic index, 3))
    (hpre : ∀ vm₁, s.WarmedH vm₁ → Pre ⟨T.setVm vm₁, locs, cells, slots⟩ argsL.toArray) :
    (∃ (v : Option Value) (vm₁ : Vm) (B : Pt), s.WarmedH vm₁ ∧ Stand p l e R s m args below meth c B.U B.locs B.cells B.slots ∧ Post ⟨T.setVm vm₁, locs, cells, slots⟩ argsL.toArray v B ∧
      ∀ target, Steps p.tables e below (B.U.setTop { g with pc := g.pc + 3, stack := v.toList ++ rest }) target → Steps p.tables e below (T.setTop g) target) ∨
    (∃ (q : Addr) (vm₁ : Vm) (B : Pt), s.WarmedH vm₁ ∧ Stand p l e R s m args below meth c B.U B.locs B.cells B.slots ∧ PostX ⟨T.setVm vm₁, locs, cells, slots⟩ argsL.toArray q B ∧
      Steps p.tables e below (T.setTop g) ((B.U.setTop { g with stack := rest }).pushFrame (.throwing q))) := by
  obtain ⟨mk, hnamed⟩ := Cond.code_named hcode
  obtain ⟨methM, cM, hmethM, -, -, -, -, -, -, hsigM⟩ := Cond.code_spec hnamed hcode
  have hstatic : methM.isStatic = true := Cond.static_spec hnamed hmethM hstat
  obtain ⟨kP, hkP, -⟩ := className_of_methodNamed hnamed
  have hinitP : kP.init = .initialized := Cond.initialized_spec (findClass_of_methodNamed hnamed) hkP hinit
  obtain ⟨vm₁, X₁, hstep₁⟩ := X.invokestaticNest hexec hown hlink hnamed hmethM hstatic hkP hinitP hy (g := g) hg (argsL := argsL) (rest := rest) (hlen _ hsigM) hstack hdg
  rcases hK m meth c ⟨T.setVm vm₁, locs, cells, slots⟩ { g with stack := rest } (.invokestatic index) mk argsL.toArray X₁ hg hsize hdg hW (X₁.named hnamed) (hpre vm₁ X₁.warmed) with ⟨v, B, X', hpost, hsteps⟩ | ⟨q, B, X', hpost, hsteps⟩
  · exact Or.inl ⟨v, vm₁, B, X₁.warmed, X', hpost, fun target h => hstep₁ _ fun acts => by rw [doInvoke_state]; exact hsteps.trans h⟩
  · exact Or.inr ⟨q, vm₁, B, X₁.warmed, X', hpost, hstep₁ _ fun acts => by rw [doInvoke_state]; exact hsteps⟩
theorem vx_runVN {y : MethodName} {bytes cc : ByteArray} {maxL nL mc ms n index : Nat} {ret : Option FieldType} {ws : List Cond} {rm : Room} {Pc : Array Value → State → Prop} {Qc : Array Value → State → Outcome → State → Prop} {XC : String → State → State → Prop} {free : Addr → Prop} {Ts : List Cond} {own C host : String} {b : Addr} {As rest : List Value} {g : JFrame}
    (S : CallFix p m c cc nL s args Ts own) (hM : vx_Met l y ws rm Pc Qc XC mc ms free) (cw : va_CN R s args own index y host bytes maxL ret ws rm mc ms n ∧ (Cond.instanceMethod y).before args s = true ∧ (Cond.selects C y y).before args s = true) (hp : PreV s H C b Pc As)
    (hg : g.method = m) (hn : As.length = n) (hsize : g.locals.size = nL) (hstack : g.stack = As.reverse ++ .ref b :: rest) (hW : 2 * g.monitorRoom + (rest.map fun v => v.category).sum ≤ 8) (hdg : decode cc g.pc = .ok (.invokevirtual index, 3)) (hf : cells + mc ≤ R.cells ∧ slots + ms ≤ R.slots) :
    vx_Run p l e R s m args below meth c H locs cells slots mc ms g rest (Qc (Value.ref b :: As).toArray) XC free := by
  obtain ⟨⟨⟨hrc, hrs, hfr, hlo, hws, hcw⟩, hcode, hini, hy, hlen, hl⟩, hx1, hx2⟩ := cw
  have hK : vx_Back l R p e below s args y 3 8 (PreOf R mc ms Pc) (PostOf Qc mc ms free) (vx_Post XC mc ms free) := vx_back (bytes := bytes) (maxL := maxL) (ret := ret) hM hp.1 hrc hrs hfr hlo hws hcw (fun a' U hW => word_at hW (Or.inl (by first | rfl | simp [Cond.onTables, Cond.keeps, Cond.steady])) hini)
  obtain ⟨hx, hb, hml, ho, -⟩ := S
  obtain ⟨-, ⟨cellB, hcB, hoB, hclB⟩, hPc⟩ := hp
  intro T hT X
  rcases vx_callVN X hx (C := C) (bytes := bytes) (maxL := maxL) (ret := ret) ho hl hx1 hx2 hcode hy hK (by rw [hT]; exact hcB) hoB hclB hg (hsize.trans hml.symm) (argsL := As) (rest := rest) (fun sig h => hn.trans (hlen sig h)) hstack hW (by rw [hb]; exact hdg)
    (fun vm₁ hW₁ => ⟨hf.1, hf.2, hPc (T.setVm vm₁) hT hW₁⟩) with ⟨v, vm₁, ⟨U', l2, c2, s2⟩, hW₁, X', ⟨g', mk, t, L, e1, e2, hq, h1, hL, h2, h3⟩, st⟩ | ⟨q, vm₁, ⟨U', l2, c2, s2⟩, hW₁, X', ⟨g', mk, t, L, E, ce, e1, e2, hq, hce, hcv, hcl, h1, hL, h2, h3⟩, st⟩
  · dsimp only [Pt.U, Pt.locs, Pt.cells, Pt.slots] at X' e1 e2 h1 h2 h3 st
    subst h1; subst h2; subst h3
    exact Or.inl ⟨v, (T.setVm vm₁).calling g' mk (Value.ref b :: As).toArray, t, U', L, hT, X', hL, e1, e2, hq, st⟩
  · dsimp only [Pt.U, Pt.locs, Pt.cells, Pt.slots] at X' e1 e2 h1 h2 h3 st hcl
    subst h1; subst h2; subst h3
    exact Or.inr ⟨q, (T.setVm vm₁).calling g' mk (Value.ref b :: As).toArray, t, U', L, E, ce, hT, X', hL, e1, e2, hq, hce, hcv, vx_cls hW₁ hcl, st⟩
theorem vx_runSN {y : MethodName} {bytes cc : ByteArray} {maxL nL mc ms n index : Nat} {ret : Option FieldType} {ws : List Cond} {rm : Room} {Pc : Array Value → State → Prop} {Qc : Array Value → State → Outcome → State → Prop} {XC : String → State → State → Prop} {free : Addr → Prop} {Ts : List Cond} {own host : String} {As rest : List Value} {g : JFrame}
    (S : CallFix p m c cc nL s args Ts own) (hM : vx_Met l y ws rm Pc Qc XC mc ms free) (cw : va_CN R s args own index y host bytes maxL ret ws rm mc ms n ∧ (Cond.static y).before args s = true ∧ True) (hp : PreS s H Pc As)
    (hg : g.method = m) (hn : As.length = n) (hsize : g.locals.size = nL) (hstack : g.stack = As.reverse ++ rest) (hW : 2 * g.monitorRoom + (rest.map fun v => v.category).sum ≤ 8) (hdg : decode cc g.pc = .ok (.invokestatic index, 3)) (hf : cells + mc ≤ R.cells ∧ slots + ms ≤ R.slots) :
    vx_Run p l e R s m args below meth c H locs cells slots mc ms g rest (Qc As.toArray) XC free := by
  obtain ⟨⟨⟨hrc, hrs, hfr, hlo, hws, hcw⟩, hcode, hini, hy, hlen, hl⟩, hx1, hx2⟩ := cw
  have hK : vx_Back l R p e below s args y 3 8 (PreOf R mc ms Pc) (PostOf Qc mc ms free) (vx_Post XC mc ms free) := vx_back (bytes := bytes) (maxL := maxL) (ret := ret) hM hp.1 hrc hrs hfr hlo hws hcw (fun a' U hW => word_at hW (Or.inl (by first | rfl | simp [Cond.onTables, Cond.keeps, Cond.steady])) hini)
  obtain ⟨hx, hb, hml, ho, -⟩ := S
  have hPc := hp.2
  intro T hT X
  rcases vx_callSN X hx (bytes := bytes) (maxL := maxL) (ret := ret) ho hl hx1 hini hcode hy hK hg (hsize.trans hml.symm) (argsL := As) (rest := rest) (fun sig h => hn.trans (hlen sig h)) hstack hW (by rw [hb]; exact hdg)
    (fun vm₁ hW₁ => ⟨hf.1, hf.2, hPc (T.setVm vm₁) hT hW₁⟩) with ⟨v, vm₁, ⟨U', l2, c2, s2⟩, hW₁, X', ⟨g', mk, t, L, e1, e2, hq, h1, hL, h2, h3⟩, st⟩ | ⟨q, vm₁, ⟨U', l2, c2, s2⟩, hW₁, X', ⟨g', mk, t, L, E, ce, e1, e2, hq, hce, hcv, hcl, h1, hL, h2, h3⟩, st⟩
  · dsimp only [Pt.U, Pt.locs, Pt.cells, Pt.slots] at X' e1 e2 h1 h2 h3 st
    subst h1; subst h2; subst h3
    exact Or.inl ⟨v, (T.setVm vm₁).calling g' mk As.toArray, t, U', L, hT, X', hL, e1, e2, hq, st⟩
  · dsimp only [Pt.U, Pt.locs, Pt.cells, Pt.slots] at X' e1 e2 h1 h2 h3 st hcl
    subst h1; subst h2; subst h3
    exact Or.inr ⟨q, (T.setVm vm₁).calling g' mk As.toArray, t, U', L, E, ce, hT, X', hL, e1, e2, hq, hce, hcv, vx_cls hW₁ hcl, st⟩
end
/-! ===== END ===== -/
end
section
/-! THE SMALL MACHINE: a run's world as numbers by cell and place; one judgement zV for all methods, a contract zCt for each -/
def zG : List Cond := lw_tbl.filter goodWord
theorem zG_tbl {w : Cond} (h : w ∈ zG) : w ∈ lw_tbl := (List.mem_filter.mp h).1
theorem zG_good {w : Cond} (h : w ∈ zG) : goodWord w = true := (List.mem_filter.mp h).2
theorem zG_in {w : Cond} (i : Nat) (h : tables_1[i]? = some w) (hg : goodWord w = true) : w ∈ zG := List.mem_filter.mpr ⟨List.mem_append_right _ (List.mem_of_getElem? h), hg⟩
theorem zG_sel {w : Cond} (i : Nat) (h : (k2_sels lw_privs)[i]? = some w) (hg : goodWord w = true) : w ∈ zG := List.mem_filter.mpr ⟨List.mem_append_left _ (List.mem_of_getElem? h), hg⟩
/-- a method: name, code, locals, answer, frames, local words, cells, slots, handlers -/
abbrev zK : Type := MethodName × ByteArray × Nat × Option FieldType × Nat × Nat × Nat × Nat × List (Nat × Nat × Nat × Nat)
abbrev zKy (K : zK) : MethodName := K.1
abbrev zKc (K : zK) : ByteArray := K.2.1
abbrev zKl (K : zK) : Nat := K.2.2.1
abbrev zKr (K : zK) : Option FieldType := K.2.2.2.1
abbrev zKf (K : zK) : Nat := K.2.2.2.2.1
abbrev zKo (K : zK) : Nat := K.2.2.2.2.2.1
abbrev zKm (K : zK) : Nat := K.2.2.2.2.2.2.1
abbrev zKs (K : zK) : Nat := K.2.2.2.2.2.2.2.1
abbrev zKh (K : zK) : List (Nat × Nat × Nat × Nat) := K.2.2.2.2.2.2.2.2
def zrm (K : zK) : Room := { frames := zKf K, cells := zKm K, slots := zKs K, locals := zKo K }
def zcw (K : zK) : Cond := match zKh K with
  | [] => .code (zKy K) (zKc K) (zKl K) (zKr K)
  | h :: t => .codeWith (zKy K) (zKc K) (zKl K) (zKr K) (h :: t)
def zws (K : zK) : List Cond := zcw K :: zG
/-- the memory: ints by cell and place; references by cell and place (0: null); kinds and sizes of the cells; how many cells; whether the heap ends with them; the one long -/
abbrev zM : Type := (Nat → Nat → Int32) × (Nat → Nat → Nat) × (Nat → Nat × Nat) × Nat × Bool × Int64
abbrev zi (M : zM) : Nat → Nat → Int32 := M.1
abbrev zr (M : zM) : Nat → Nat → Nat := M.2.1
abbrev zk (M : zM) : Nat → Nat × Nat := M.2.2.1
abbrev zn (M : zM) : Nat := M.2.2.2.1
abbrev zt (M : zM) : Bool := M.2.2.2.2.1
abbrev zo (M : zM) : Int64 := M.2.2.2.2.2
/-- which fields of a class are ints -/
def zfl (ci : Nat) : List Bool := match ci with
  | 0 => [true, false, false, false, false, false, false]
  | 1 => [false, false, false, false]
  | 2 => [true, false]
  | 3 => [false, false, false, true]
  | 4 => [false, false, false, false, true]
  | 5 => [false, false, true]
  | 6 => [false, false, false]
  | 7 => [false, false, false, false, false, false, false, true]
  | _ => [true, false, false, false, false, true, false, false, true, false, false, false, false, true, false, false, false, false, false, false, false, false, false, true, false, false, false, false, false, false, false, false, true, true]
def zfv (bs : Nat) (m : Nat → Int32) (r : Nat → Nat) (fl : List Bool) (j : Nat) : Value := if fl.getD j true = true then .int (m j) else if r j = 0 then .null else .ref (bs + r j)
def zfs (bs : Nat) (m : Nat → Int32) (r : Nat → Nat) (fl : List Bool) : List Value := (List.range fl.length).map (zfv bs m r fl)
def zq (bs : Nat) (r : Nat → Nat) (j : Nat) : Option Nat := if r j = 0 then none else some (bs + r j)
def zE (ca : Nat → ClassId) (bs : Nat) (M : zM) (k : Nat) : va_E := match (zk M k).1 with
  | 0 => .inr ((zk M k).2, zfs bs (zi M k) (zr M k) (zfl (zk M k).2))
  | 1 => .inl (ca 0, (zk M k).2, .inl (zi M k))
  | 2 => .inl (ca 1, (zk M k).2, .inl (zi M k))
  | 3 => .inl (ca 2, (zk M k).2, .inr (.inl (fun _ => zo M)))
  | 4 => .inl (ca 3, (zk M k).2, .inr (.inr (.inr (.inr (zq bs (zr M k))))))
  | _ => .inl (ca 4, (zk M k).2, .inr (.inr (.inr (.inr (zq bs (zr M k))))))
def zw (ca : Nat → ClassId) (bs : Nat) (M : zM) : va_W := (List.range (zn M)).map (fun j => (bs + (j + 1), zE ca bs M (j + 1)))
def ztys (ca : Nat → ClassId) : List (ClassId × FieldType) := [(ca 0, .int), (ca 1, .boolean), (ca 2, .long), (ca 3, .object RX0), (ca 4, .object RX2)]
def zad (bs b k : Nat) : Nat := if k = 0 then b else bs + k
def ztr (bs b : Nat) (v : Value) : Value := match v with
  | .ref k => .ref (zad bs b k)
  | v => v
theorem zw_at {ca : Nat → ClassId} {bs : Nat} {M : zM} {k : Nat} (h0 : 0 < k) (hk : k ≤ zn M) : (zw ca bs M)[k - 1]? = some (bs + k, zE ca bs M k) := by
  have h1 : k - 1 + 1 = k := by omega
  simp [zw, List.getElem?_map, List.getElem?_range (show k - 1 < zn M by omega), h1]
theorem zw_of {ca : Nat → ClassId} {bs : Nat} {M : zM} {i : Nat} {q : Nat × va_E} (h : (zw ca bs M)[i]? = some q) : i < zn M ∧ q = (bs + (i + 1), zE ca bs M (i + 1)) := by
  have hl := (List.getElem?_eq_some_iff.mp h).1
  have hl2 : i < zn M := by simpa [zw] using hl
  simp [zw, List.getElem?_map, List.getElem?_range hl2] at h
  exact ⟨hl2, h.symm⟩
/-- a cell is set -/
theorem zw_set {ca : Nat → ClassId} {bs : Nat} {M M' : zM} {k : Nat} (h0 : 0 < k) (hn : zn M' = zn M) (ho : ∀ j, j ≠ k → zE ca bs M' j = zE ca bs M j) : (zw ca bs M).set (k - 1) (bs + k, zE ca bs M' k) = zw ca bs M' := by
  apply List.ext_getElem?
  intro i
  rw [List.getElem?_set]
  by_cases hi : k - 1 = i
  · subst hi
    rw [if_pos rfl]
    by_cases hk : k ≤ zn M
    · rw [if_pos (by simp [zw]; omega), zw_at h0 (by rw [hn]; exact hk)]
    · rw [if_neg (by simp [zw]; omega)]
      symm
      simp [zw, hn]
      omega
  · rw [if_neg hi]
    simp only [zw, List.getElem?_map]
    rw [hn]
    by_cases hl : i < zn M
    · rw [List.getElem?_range hl]
      simp only [Option.map_some]
      rw [ho (i + 1) (by omega)]
    · rw [List.getElem?_eq_none (by simpa using hl)]
      rfl
theorem zw_push {ca : Nat → ClassId} {bs : Nat} {M M' : zM} (hn : zn M' = zn M + 1) (ho : ∀ j, j ≤ zn M → zE ca bs M' j = zE ca bs M j) : zw ca bs M ++ [(bs + (zn M + 1), zE ca bs M' (zn M + 1))] = zw ca bs M' := by
  simp only [zw]
  rw [hn, List.range_succ, List.map_append, List.map_singleton]
  congr 1
  apply List.map_congr_left
  intro j hj
  rw [ho (j + 1) (by have := List.mem_range.mp hj; omega)]
/-- the cells that a method may change: those that were there, and those that come -/
def zA (bs n sz : Nat) : Nat → Prop := fun q => (bs < q ∧ q ≤ bs + n) ∨ sz ≤ q
theorem zw_D {ca : Nat → ClassId} {bs : Nat} {M : zM} {A : Nat → Prop} (h : ∀ q, bs < q → q ≤ bs + zn M → A q) : va_D A (zw ca bs M) := by
  refine ⟨fun i j p q hp hq e => ?_, fun k q hq => ?_⟩
  · obtain ⟨-, rfl⟩ := zw_of hp
    obtain ⟨-, rfl⟩ := zw_of hq
    simp only at e
    omega
  · obtain ⟨h1, rfl⟩ := zw_of hq
    exact h _ (by simp only; omega) (by simp only; omega)
/-- the texts of the throws: class, place, text -/
def zstrs : List (String × Nat × String) := [("PortolanHall", 299, "no such point"), ("PortolanHall", 79, "x, y, name or year is out of range"), ("PortolanHall", 89, "there are reports"), ("PortolanHall", 105, "turn or error is out of range"), ("PortolanHall", 108, "there are all the pilots"), ("PortolanHall", 118, "no such pilot"), ("PortolanHall", 121, "both points are the same"), ("PortolanHall", 123, "there are all the reports"), ("PortolanHall", 133, "reports or year is out of range"), ("PortolanHall", 305, "there are all the charts"), ("PortolanHall", 309, "no such copyist"), ("PortolanHall", 159, "hand is out of range"), ("PortolanHall", 164, "name or as is out of range"), ("PortolanHall", 307, "no such chart"), ("PortolanHall", 173, "way or year is out of range"), ("PortolanHall", 192, "the same chart, or the stretch ends ahead of its start"), ("PortolanHall", 194, "the source is younger"), ("PortolanHall", 200, "the source has a place of the stretch from the chart itself"), ("PortolanHall", 205, "a place would be too far away"), ("PortolanHall", 211, "x or y is out of range"), ("PortolanHall", 214, "there were all the islands"), ("PortolanHall", 301, "no such basin"), ("PortolanHall", 228, "hundredths is out of range"), ("PortolanHall", 237, "the stretch ends ahead of its start"), ("PortolanHall", 303, "no such island"), ("PortolanHall", 242, "no such report"), ("PortolanHall", 252, "what is out of range"), ("PortolanHall", 254, "no such place")]
def zNcs : List (String × String) := [("java/lang/IndexOutOfBoundsException", "java/lang/IllegalArgumentException"), ("java/lang/IndexOutOfBoundsException", "java/lang/IllegalStateException"), ("java/lang/IllegalArgumentException", "java/lang/IndexOutOfBoundsException"), ("java/lang/IllegalArgumentException", "java/lang/IllegalStateException"), ("java/lang/IllegalStateException", "java/lang/IndexOutOfBoundsException"), ("java/lang/IllegalStateException", "java/lang/IllegalArgumentException")]
def zXs : List String := ["java/lang/IndexOutOfBoundsException", "java/lang/IllegalArgumentException", "java/lang/IllegalStateException"]
def zNests : List (String × Nat × MethodName × String) := [("PortolanHall", 18, ⟨"PortolanHall$Pilots", "<init>", "()V"⟩, "PortolanHall"), ("PortolanHall", 25, ⟨"PortolanHall$Log", "<init>", "()V"⟩, "PortolanHall"), ("PortolanHall", 32, ⟨"PortolanHall$Round", "<init>", "()V"⟩, "PortolanHall"), ("PortolanHall", 51, ⟨"PortolanHall$Islands", "<init>", "()V"⟩, "PortolanHall"), ("PortolanHall", 61, ⟨"PortolanHall$Chart", "<init>", "()V"⟩, "PortolanHall"), ("PortolanHall$Copyist", 19, ⟨"PortolanHall", "isName", "(I)Z"⟩, "PortolanHall"), ("PortolanHall$Chart", 63, ⟨"PortolanHall", "isWithin", "(II)Z"⟩, "PortolanHall"), ("PortolanHall$Chart", 52, ⟨"PortolanHall", "firstOf", "(I)I"⟩, "PortolanHall"), ("PortolanHall$Chart", 56, ⟨"PortolanHall", "lastOf", "(I)I"⟩, "PortolanHall")]
def zDec : List MethodName := [⟨"java/lang/RuntimeException", "<init>", "()V"⟩, ⟨"java/lang/RuntimeException", "<init>", "(Ljava/lang/String;)V"⟩, ⟨"java/lang/Exception", "<init>", "()V"⟩, ⟨"java/lang/Exception", "<init>", "(Ljava/lang/String;)V"⟩, ⟨"java/lang/Throwable", "<init>", "()V"⟩, ⟨"java/lang/Throwable", "<init>", "(Ljava/lang/String;)V"⟩]
def zStr (q : String × Nat × String) (U : State) : Prop := ∃ a : Nat, vk_R q.1 q.2.1 q.2.2 a U
/-- what stays as it was at the start: two statics, the texts, what isn't castable, the script -/
def zEv (b L : Nat) (xs : Nat → Int32) (A : Nat → Prop) (U : State) (H : Heap) : Prop :=
  vx_Zq Bundle.tN "UNASSIGNED_STACK" Bundle.steD A U H ∧ vx_Zq Bundle.tN "SUPPRESSED_SENTINEL" Bundle.listD A U H ∧ (∀ q ∈ zstrs, zStr q U) ∧ (∀ q ∈ zNcs, va_Nc q.1 q.2 U) ∧ va_X b L xs U H ∧ b < H.size ∧ va_AO RX0 U ∧ va_AO RX2 U ∧ (∀ X ∈ zXs, va_Nw (.castable X X) U) ∧ (∀ q ∈ zNests, va_Nw (.methodLinkNest q.1 q.2.1 q.2.2.1 q.2.2.2) U) ∧ ∀ y ∈ zDec, va_Nw (.declares y) U
theorem zEv.moved {b L : Nat} {xs : Nat → Int32} {A : Nat → Prop} {u U : State} {H : Heap} (hW : u.WarmedH U.vm) (h : zEv b L xs A u H) : zEv b L xs A U H := by
  obtain ⟨h1, h2, h3, h4, h5, h6, h7, h8, h9, h10, h11⟩ := h
  exact ⟨vx_Zq.moved hW.alike h1, vx_Zq.moved hW.alike h2, fun q hq => by obtain ⟨a, ha⟩ := h3 q hq; exact ⟨a, vk_R.warm hW ha⟩, fun q hq => va_Nc.moved hW.alike (h4 q hq), va_X.moved hW.alike h5, h6, va_AO.moved hW.alike h7, va_AO.moved hW.alike h8, fun X hX => va_Nw.warmC hW (h9 X hX), fun q hq => va_Nw.warmM hW (h10 q hq), fun y hy => va_Nw.warmD hW (h11 y hy)⟩
theorem zEv.same {b L : Nat} {xs : Nat → Int32} {A : Nat → Prop} {u U : State} {H : Heap} (hv : U.vm = u.vm) (h : zEv b L xs A u H) : zEv b L xs A U H := by
  have hA : u.vm.Alike U.vm := by rw [hv]; exact Vm.Alike.refl u.vm
  obtain ⟨h1, h2, h3, h4, h5, h6, h7, h8, h9, h10, h11⟩ := h
  exact ⟨vx_Zq.moved hA h1, vx_Zq.moved hA h2, fun q hq => by obtain ⟨a, ha⟩ := h3 q hq; exact ⟨a, vk_R.same hv ha⟩, fun q hq => va_Nc.moved hA (h4 q hq), va_X.moved hA h5, h6, va_AO.moved hA h7, va_AO.moved hA h8, fun X hX => va_Nw.same rfl hv.symm (h9 X hX), fun q hq => va_Nw.same rfl hv.symm (h10 q hq), fun y hy => va_Nw.same rfl hv.symm (h11 y hy)⟩
theorem zEv.kept {b L : Nat} {xs : Nat → Int32} {A B : Nat → Prop} {U : State} {H H1 : Heap} (h : zEv b L xs A U H) (hz : H.size ≤ H1.size) (hq : ∀ a : Nat, a < H.size → ¬ A a → H1[a]? = H[a]?) (hb : ¬ A b) (hAB : ∀ q, B q → A q) : zEv b L xs B U H1 := by
  obtain ⟨h1, h2, h3, h4, h5, h6, h7, h8, h9, h10, h11⟩ := h
  exact ⟨(h1.kept hq).narrow hAB, (h2.kept hq).narrow hAB, h3, h4, h5.kept (hq b h6 hb), Nat.lt_of_lt_of_le h6 hz, h7, h8, h9, h10, h11⟩
/-- the locals: what isn't null is there -/
def zL (bs b : Nat) (ls : List Value) (lr : Array Slot) (nL : Nat) : Prop := lr.size = nL ∧ lv_wf lr ∧ ls.length = nL ∧ (∀ v ∈ ls, v.category = 1) ∧ ∀ (i : Nat) (v : Value), ls[i]? = some v → v ≠ .null → lr[i]? = some (.val (ztr bs b v))
theorem ztr_cat {bs b : Nat} {v : Value} : (ztr bs b v).category = v.category := by cases v <;> rfl
def zlv (bs b : Nat) (ls : List Value) : List (Nat × Value) := (List.range ls.length).filterMap (fun i => if ls.getD i .null = .null then none else some (i, ztr bs b (ls.getD i .null)))
theorem zL_has {bs b : Nat} {ls : List Value} {lr : Array Slot} {nL : Nat} (h : zL bs b ls lr nL) : lv_has lr nL (zlv bs b ls) := by
  obtain ⟨h1, h2, h3, h4, h5⟩ := h
  refine ⟨h1, h2, fun q hq => ?_⟩
  simp only [zlv, List.mem_filterMap, List.mem_range] at hq
  obtain ⟨i, hi, hq⟩ := hq
  by_cases hn : ls.getD i .null = .null
  · rw [if_pos hn] at hq; cases hq
  · rw [if_neg hn] at hq
    cases hq
    refine h5 i _ ?_ hn
    rw [List.getD_eq_getElem?_getD, List.getElem?_eq_getElem hi]
    rfl
theorem zL_set {bs b i : Nat} {ls : List Value} {lr lr' : Array Slot} {nL : Nat} {x : Value} (h : zL bs b ls lr nL) (hx : x.category = 1)
    (h' : lv_has lr' nL ((i, ztr bs b x) :: (zlv bs b ls).filter (fun q => !(q.1 == i) && !(q.1 + 1 == i && q.2.category == 2)))) : zL bs b (ls.set i x) lr' nL := by
  obtain ⟨h1, h2, h3, h4, h5⟩ := h
  obtain ⟨g1, g2, g3⟩ := h'
  refine ⟨g1, g2, by rw [List.length_set]; exact h3, fun v hv => ?_, fun j v hj hv => ?_⟩
  · rcases List.mem_or_eq_of_mem_set hv with h | rfl
    · exact h4 v h
    · exact hx
  · by_cases hij : i = j
    · subst hij
      have hl : i < (ls.set i x).length := (List.getElem?_eq_some_iff.mp hj).1
      rw [List.length_set] at hl
      rw [List.getElem?_set_self hl] at hj
      cases hj
      exact g3 _ List.mem_cons_self
    · rw [List.getElem?_set_ne hij] at hj
      refine g3 (j, ztr bs b v) (List.mem_cons_of_mem _ (List.mem_filter.mpr ⟨?_, ?_⟩))
      · have hl : j < ls.length := (List.getElem?_eq_some_iff.mp hj).1
        have he : ls.getD j .null = v := by rw [List.getD_eq_getElem?_getD, hj]; rfl
        simp only [zlv, List.mem_filterMap, List.mem_range]
        exact ⟨j, hl, by rw [he, if_neg hv]⟩
      · have hc : (ztr bs b v).category = 1 := by rw [ztr_cat]; exact h4 v (List.mem_of_getElem? hj)
        simp only [hc]
        simp
        omega
abbrev zO : Type := (Option Value ⊕ String) × zM
def zR (D : va_G) (ca : Nat → ClassId) (bs : Nat) (M : zM) (H : Heap) : Prop := va_P D vwCl (zw ca bs M) H ∧ (zt M = true → H.size = bs + zn M + 1) ∧ bs + zn M < H.size
def zPre (E : Nat × (Nat → Int32)) (D : va_G) (ca : Nat → ClassId) (bs b : Nat) (M : zM) (sz : Nat) (U : State) : Prop :=
  U.heap.size = sz ∧ zR D ca bs M U.heap ∧ va_K D vwCl (ztys ca) U ∧ zEv b E.1 E.2 (zA bs (zn M) sz) U U.heap ∧ b ≤ bs
def zQc (D : va_G) (ca : Nat → ClassId) (bs b : Nat) (A : Nat → Prop) (o : zO) : Array Value → State → Outcome → State → Prop := fun _ st oc t => ∃ v : Option Value, o.1 = .inl v ∧ oc = .returned (v.map (ztr bs b)) ∧ zR D ca bs o.2 t.heap ∧ va_F A st t
def zXc (D : va_G) (ca : Nat → ClassId) (bs : Nat) (A : Nat → Prop) (o : zO) : String → State → State → Prop := fun E st t => o.1 = .inr E ∧ zR D ca bs o.2 t.heap ∧ va_F A st t
/-- THE CONTRACT of a method: from these arguments and this memory it comes to this outcome -/
def zCt (E : Nat × (Nat → Int32)) (K : zK) (as : List Value) (M : zM) (o : zO) : Prop := (zn M ≤ zn o.2 ∧ (zn M < zn o.2 → zt M = true)) ∧
  ∀ (l : Launch) (D : va_G) (ca : Nat → ClassId) (bs b : Nat) (sz : Nat), l.stackTraces = false →
    vx_Met l (zKy K) (zws K) (zrm K) (va_Pc (as.map (ztr bs b)) (zPre E D ca bs b M sz)) (zQc D ca bs b (zA bs (zn M) sz) o) (zXc D ca bs (zA bs (zn M) sz) o) (zKm K) (zKs K) (zA bs (zn M) sz)
/-- what a frame of K stands on -/
def zC (E : Nat × (Nat → Int32)) (K : zK) (p : Program) (l : Launch) (R : Room) (s : State) (m : MethodId) (args : Array Value) (meth : Method) (c : Code) (D : va_G) (ca : Nat → ClassId) (bs b : Nat) (n0 : Nat) : Prop :=
  p.tables.exec = Jvm.exec ∧ c.code = zKc K ∧ c.maxLocals = zKl K ∧ s.vm.findClass (zKy K).cls = some m.cls ∧ (∀ w ∈ zG, w.before args s = true) ∧ meth.locks = false ∧ R = zrm K ∧ meth.sig.returnType = zKr K ∧ c.exceptionTable.toList = tableOf (zKh K) ∧ va_K D vwCl (ztys ca) s ∧ zEv b E.1 E.2 (zA bs n0 s.heap.size) s s.heap ∧ l.stackTraces = false ∧ b ≤ bs ∧ bs + n0 < s.heap.size ∧ ((zKy K).name = "<init>" → meth.name = "<init>")
/-- what is to be reached: the law's end, or a method's outcome -/
def zFin (F : Bool) (K : zK) (n0 : Nat) (o : zO) (D : va_G) (ca : Nat → ClassId) (bs b : Nat) (below : List Frame) (args : Array Value) (s : State) : State → Prop := match F with
  | true => lw_Z below args s
  | false => vx_MQ below (zQc D ca bs b (zA bs n0 s.heap.size) o) (zXc D ca bs (zA bs n0 s.heap.size) o) args s (zKm K) (zKs K) (zA bs n0 s.heap.size)
/-- THE JUDGEMENT: from this place of K's code, with these locals, stack and memory, it comes to the end -/
def zV (F : Bool) (E : Nat × (Nat → Int32)) (K : zK) (n0 : Nat) (o : zO) (pc : Nat) (ls sk : List Value) (M : zM) (u us : Nat) : Prop :=
  ∀ (p : Program) (l : Launch) (e : Env) (R : Room) (s : State) (m : MethodId) (args : Array Value) (below : List Frame) (meth : Method) (c : Code) (D : va_G) (ca : Nat → ClassId) (bs b : Nat) (H : Heap) (locs : List Loc) (lr : Array Slot),
    zC E K p l R s m args meth c D ca bs b n0 → zR D ca bs M H → va_S (zA bs n0 s.heap.size) s.heap H locs → (∀ q, bs < q → q ≤ bs + zn M → zA bs n0 s.heap.size q) → n0 ≤ zn M → zL bs b ls lr (zKl K) →
    W p l e R s m args below meth c H locs u us (zFin F K n0 o D ca bs b below args s) (F0 m pc lr (sk.map (ztr bs b)))
section ZR
variable {F : Bool} {E : Nat × (Nat → Int32)} {K : zK} {n0 : Nat} {o : zO} {pc : Nat} {ls sk : List Value} {M : zM} {u us : Nat}
/-- a row that changes neither heap nor locals -/
theorem zgo {pc' : Nat} {sk' : List Value} (h : ∀ (p : Program) (l : Launch) (e : Env) (R : Room) (s : State) (m : MethodId) (args : Array Value) (below : List Frame) (meth : Method) (c : Code) (D : va_G) (ca : Nat → ClassId) (bs b : Nat) (H : Heap) (locs : List Loc) (lr : Array Slot) (Q : State → Prop),
    zC E K p l R s m args meth c D ca bs b n0 → zR D ca bs M H → zL bs b ls lr (zKl K) → W p l e R s m args below meth c H locs u us Q (F0 m pc' lr (sk'.map (ztr bs b))) → W p l e R s m args below meth c H locs u us Q (F0 m pc lr (sk.map (ztr bs b))))
    (k : zV F E K n0 o pc' ls sk' M u us) : zV F E K n0 o pc ls sk M u us :=
  fun p l e R s m args below meth c D ca bs b H locs lr hC hR hS hA hn hL => h p l e R s m args below meth c D ca bs b H locs lr _ hC hR hL (k p l e R s m args below meth c D ca bs b H locs lr hC hR hS hA hn hL)
theorem z_iconst {n : Int} (v : Int32) (hv : Int32.ofInt n = v) (d : decode (zKc K) pc = .ok (.iconst n, 1))
    (k : zV F E K n0 o (pc + 1) ls (.int v :: sk) M u us) : zV F E K n0 o pc ls (sk) M u us := zgo (fun _ _ _ _ _ _ _ _ _ _ _ _ _ _ _ _ _ _ hC _ hL kk => lv_iconst hC.1 hC.2.1 d hv kk) k
theorem z_bipush {n : Int} (v : Int32) (hv : (Int8.ofInt n).toInt32 = v) (d : decode (zKc K) pc = .ok (.bipush n, 2))
    (k : zV F E K n0 o (pc + 2) ls (.int v :: sk) M u us) : zV F E K n0 o pc ls (sk) M u us := zgo (fun _ _ _ _ _ _ _ _ _ _ _ _ _ _ _ _ _ _ hC _ hL kk => lv_bipush hC.1 hC.2.1 d hv kk) k
theorem z_sipush {n : Int} (v : Int32) (hv : (Int16.ofInt n).toInt32 = v) (d : decode (zKc K) pc = .ok (.sipush n, 3))
    (k : zV F E K n0 o (pc + 3) ls (.int v :: sk) M u us) : zV F E K n0 o pc ls (sk) M u us := zgo (fun _ _ _ _ _ _ _ _ _ _ _ _ _ _ _ _ _ _ hC _ hL kk => lv_sipush hC.1 hC.2.1 d hv kk) k
theorem z_lconst {n : Fin 2} (v : Int64) (hv : Int64.ofNat (n : Nat) = v) (d : decode (zKc K) pc = .ok (.lconst n, 1))
    (k : zV F E K n0 o (pc + 1) ls (.long v :: sk) M u us) : zV F E K n0 o pc ls (sk) M u us := zgo (fun _ _ _ _ _ _ _ _ _ _ _ _ _ _ _ _ _ _ hC _ hL kk => lv_lconst hC.1 hC.2.1 d hv kk) k
theorem z_ldc {index : Nat} (v : Int32) (hw : Jvm.Cond.constant (zKy K).cls index v ∈ zG) (d : decode (zKc K) pc = .ok (.ldc index, 2))
    (k : zV F E K n0 o (pc + 2) ls (.int v :: sk) M u us) : zV F E K n0 o pc ls (sk) M u us := zgo (fun _ _ _ _ _ _ _ _ _ _ _ _ _ _ _ _ _ _ hC _ hL kk => W.ldc hC.1 hC.2.1 hC.2.2.2.1 (hC.2.2.2.2.1 _ hw) rfl d kk) k
theorem z_iload_n {k4 : Fin 4} {i : Nat} {x : Int32} (hi : (k4 : Nat) = i) (hl : ls[i]? = some (.int x)) (d : decode (zKc K) pc = .ok (.iload_n k4, 1))
    (k : zV F E K n0 o (pc + 1) ls (.int x :: sk) M u us) : zV F E K n0 o pc ls (sk) M u us := zgo (fun _ _ _ _ _ _ _ _ _ _ _ _ _ _ _ _ _ _ hC _ hL kk => lv_iload_n hC.1 hC.2.1 d hi (hL.2.2.2.2 i _ hl (fun h => by cases h)) kk) k
theorem z_iload {i : Nat} {x : Int32} (hl : ls[i]? = some (.int x)) (d : decode (zKc K) pc = .ok (.iload i, 2))
    (k : zV F E K n0 o (pc + 2) ls (.int x :: sk) M u us) : zV F E K n0 o pc ls (sk) M u us := zgo (fun _ _ _ _ _ _ _ _ _ _ _ _ _ _ _ _ _ _ hC _ hL kk => lv_iload hC.1 hC.2.1 d (hL.2.2.2.2 i _ hl (fun h => by cases h)) kk) k
theorem z_aload_n {k4 : Fin 4} {i : Nat} {x : Nat} (hi : (k4 : Nat) = i) (hl : ls[i]? = some (.ref x)) (d : decode (zKc K) pc = .ok (.aload_n k4, 1))
    (k : zV F E K n0 o (pc + 1) ls (.ref x :: sk) M u us) : zV F E K n0 o pc ls (sk) M u us := zgo (fun _ _ _ _ _ _ _ _ _ _ _ _ _ _ _ _ _ _ hC _ hL kk => lv_aload_n hC.1 hC.2.1 d hi (hL.2.2.2.2 i _ hl (fun h => by cases h)) kk) k
theorem z_aload {i : Nat} {x : Nat} (hl : ls[i]? = some (.ref x)) (d : decode (zKc K) pc = .ok (.aload i, 2))
    (k : zV F E K n0 o (pc + 2) ls (.ref x :: sk) M u us) : zV F E K n0 o pc ls (sk) M u us := zgo (fun _ _ _ _ _ _ _ _ _ _ _ _ _ _ _ _ _ _ hC _ hL kk => lv_aload hC.1 hC.2.1 d (hL.2.2.2.2 i _ hl (fun h => by cases h)) kk) k
theorem z_iadd {x y : Int32} (d : decode (zKc K) pc = .ok (.iadd, 1))
    (k : zV F E K n0 o (pc + 1) ls (.int (x + y) :: sk) M u us) : zV F E K n0 o pc ls (.int y :: .int x :: sk) M u us := zgo (fun _ _ _ _ _ _ _ _ _ _ _ _ _ _ _ _ _ _ hC _ hL kk => lv_iadd hC.1 hC.2.1 d kk) k
theorem z_isub {x y : Int32} (d : decode (zKc K) pc = .ok (.isub, 1))
    (k : zV F E K n0 o (pc + 1) ls (.int (x - y) :: sk) M u us) : zV F E K n0 o pc ls (.int y :: .int x :: sk) M u us := zgo (fun _ _ _ _ _ _ _ _ _ _ _ _ _ _ _ _ _ _ hC _ hL kk => lv_isub hC.1 hC.2.1 d kk) k
theorem z_imul {x y : Int32} (d : decode (zKc K) pc = .ok (.imul, 1))
    (k : zV F E K n0 o (pc + 1) ls (.int (x * y) :: sk) M u us) : zV F E K n0 o pc ls (.int y :: .int x :: sk) M u us := zgo (fun _ _ _ _ _ _ _ _ _ _ _ _ _ _ _ _ _ _ hC _ hL kk => lv_imul hC.1 hC.2.1 d kk) k
theorem z_iand {x y : Int32} (d : decode (zKc K) pc = .ok (.iand, 1))
    (k : zV F E K n0 o (pc + 1) ls (.int (x &&& y) :: sk) M u us) : zV F E K n0 o pc ls (.int y :: .int x :: sk) M u us := zgo (fun _ _ _ _ _ _ _ _ _ _ _ _ _ _ _ _ _ _ hC _ hL kk => lv_iand hC.1 hC.2.1 d kk) k
theorem z_idiv {x y : Int32} (hne : ¬ y = 0) (d : decode (zKc K) pc = .ok (.idiv, 1))
    (k : zV F E K n0 o (pc + 1) ls (.int (x / y) :: sk) M u us) : zV F E K n0 o pc ls (.int y :: .int x :: sk) M u us := zgo (fun _ _ _ _ _ _ _ _ _ _ _ _ _ _ _ _ _ _ hC _ hL kk => lv_idiv hC.1 hC.2.1 d hne kk) k
theorem z_ineg {x : Int32} (d : decode (zKc K) pc = .ok (.ineg, 1))
    (k : zV F E K n0 o (pc + 1) ls (.int (-x) :: sk) M u us) : zV F E K n0 o pc ls (.int x :: sk) M u us := zgo (fun _ _ _ _ _ _ _ _ _ _ _ _ _ _ _ _ _ _ hC _ hL kk => lv_ineg hC.1 hC.2.1 d kk) k
theorem z_dup {v : Value} (hv : v.category = 1) (d : decode (zKc K) pc = .ok (.dup, 1))
    (k : zV F E K n0 o (pc + 1) ls (v :: v :: sk) M u us) : zV F E K n0 o pc ls (v :: sk) M u us := zgo (fun _ _ _ _ _ _ _ _ _ _ _ _ _ _ _ _ _ _ hC _ hL kk => lv_dup hC.1 hC.2.1 d (ztr_cat.trans hv) kk) k
theorem z_dup2 {v w : Value} (hv : v.category = 1) (hw : w.category = 1) (d : decode (zKc K) pc = .ok (.dup2, 1))
    (k : zV F E K n0 o (pc + 1) ls (v :: w :: v :: w :: sk) M u us) : zV F E K n0 o pc ls (v :: w :: sk) M u us := zgo (fun _ _ _ _ _ _ _ _ _ _ _ _ _ _ _ _ _ _ hC _ hL kk => lv_dup2_11 hC.1 hC.2.1 d (ztr_cat.trans hv) (ztr_cat.trans hw) kk) k
theorem z_i2l {x : Int32} (d : decode (zKc K) pc = .ok (.i2l, 1))
    (k : zV F E K n0 o (pc + 1) ls (.long x.toInt64 :: sk) M u us) : zV F E K n0 o pc ls (.int x :: sk) M u us := zgo (fun _ _ _ _ _ _ _ _ _ _ _ _ _ _ _ _ _ _ hC _ hL kk => lv_i2l hC.1 hC.2.1 d rfl kk) k
theorem z_lcmp {x y : Int64} (d : decode (zKc K) pc = .ok (.lcmp, 1))
    (k : zV F E K n0 o (pc + 1) ls (.int (lg_cmp x y) :: sk) M u us) : zV F E K n0 o pc ls (.long y :: .long x :: sk) M u us := zgo (fun _ _ _ _ _ _ _ _ _ _ _ _ _ _ _ _ _ _ hC _ hL kk => W.lcmp hC.1 hC.2.1 d kk) k
theorem z_goto {off : Int} (tgt : Nat) (ht : (pc : Int) + off = (tgt : Int)) (d : decode (zKc K) pc = .ok (.goto off, 3))
    (k : zV F E K n0 o tgt ls sk M u us) : zV F E K n0 o pc ls sk M u us := zgo (fun _ _ _ _ _ _ _ _ _ _ _ _ _ _ _ _ _ _ hC _ _ kk => lv_goto hC.1 hC.2.1 d ht kk) k
theorem z_if_eq {x : Int32} {off : Int} (tgt : Nat) (ht : (pc : Int) + off = (tgt : Int)) (d : decode (zKc K) pc = .ok (.ifCond .eq off, 3))
    (kt : x = 0 → zV F E K n0 o tgt ls sk M u us) (kf : ¬ x = 0 → zV F E K n0 o (pc + 3) ls sk M u us) : zV F E K n0 o pc ls (.int x :: sk) M u us :=
  fun p l e R s m args below meth c D ca bs b H locs lr hC hR hS hA hn hL => lv_if_eq hC.1 hC.2.1 d ht (fun h => kt h p l e R s m args below meth c D ca bs b H locs lr hC hR hS hA hn hL) (fun h => kf h p l e R s m args below meth c D ca bs b H locs lr hC hR hS hA hn hL)
theorem z_icmp_eq {x y : Int32} {off : Int} (tgt : Nat) (ht : (pc : Int) + off = (tgt : Int)) (d : decode (zKc K) pc = .ok (.if_icmp .eq off, 3))
    (kt : x = y → zV F E K n0 o tgt ls sk M u us) (kf : ¬ x = y → zV F E K n0 o (pc + 3) ls sk M u us) : zV F E K n0 o pc ls (.int y :: .int x :: sk) M u us :=
  fun p l e R s m args below meth c D ca bs b H locs lr hC hR hS hA hn hL => lv_icmp_eq hC.1 hC.2.1 d ht (fun h => kt h p l e R s m args below meth c D ca bs b H locs lr hC hR hS hA hn hL) (fun h => kf h p l e R s m args below meth c D ca bs b H locs lr hC hR hS hA hn hL)
theorem z_if_ne {x : Int32} {off : Int} (tgt : Nat) (ht : (pc : Int) + off = (tgt : Int)) (d : decode (zKc K) pc = .ok (.ifCond .ne off, 3))
    (kt : ¬ x = 0 → zV F E K n0 o tgt ls sk M u us) (kf : x = 0 → zV F E K n0 o (pc + 3) ls sk M u us) : zV F E K n0 o pc ls (.int x :: sk) M u us :=
  fun p l e R s m args below meth c D ca bs b H locs lr hC hR hS hA hn hL => lv_if_ne hC.1 hC.2.1 d ht (fun h => kt h p l e R s m args below meth c D ca bs b H locs lr hC hR hS hA hn hL) (fun h => kf h p l e R s m args below meth c D ca bs b H locs lr hC hR hS hA hn hL)
theorem z_icmp_ne {x y : Int32} {off : Int} (tgt : Nat) (ht : (pc : Int) + off = (tgt : Int)) (d : decode (zKc K) pc = .ok (.if_icmp .ne off, 3))
    (kt : ¬ x = y → zV F E K n0 o tgt ls sk M u us) (kf : x = y → zV F E K n0 o (pc + 3) ls sk M u us) : zV F E K n0 o pc ls (.int y :: .int x :: sk) M u us :=
  fun p l e R s m args below meth c D ca bs b H locs lr hC hR hS hA hn hL => lv_icmp_ne hC.1 hC.2.1 d ht (fun h => kt h p l e R s m args below meth c D ca bs b H locs lr hC hR hS hA hn hL) (fun h => kf h p l e R s m args below meth c D ca bs b H locs lr hC hR hS hA hn hL)
theorem z_if_lt {x : Int32} {off : Int} (tgt : Nat) (ht : (pc : Int) + off = (tgt : Int)) (d : decode (zKc K) pc = .ok (.ifCond .lt off, 3))
    (kt : x < 0 → zV F E K n0 o tgt ls sk M u us) (kf : ¬ x < 0 → zV F E K n0 o (pc + 3) ls sk M u us) : zV F E K n0 o pc ls (.int x :: sk) M u us :=
  fun p l e R s m args below meth c D ca bs b H locs lr hC hR hS hA hn hL => lv_if_lt hC.1 hC.2.1 d ht (fun h => kt h p l e R s m args below meth c D ca bs b H locs lr hC hR hS hA hn hL) (fun h => kf h p l e R s m args below meth c D ca bs b H locs lr hC hR hS hA hn hL)
theorem z_icmp_lt {x y : Int32} {off : Int} (tgt : Nat) (ht : (pc : Int) + off = (tgt : Int)) (d : decode (zKc K) pc = .ok (.if_icmp .lt off, 3))
    (kt : x < y → zV F E K n0 o tgt ls sk M u us) (kf : ¬ x < y → zV F E K n0 o (pc + 3) ls sk M u us) : zV F E K n0 o pc ls (.int y :: .int x :: sk) M u us :=
  fun p l e R s m args below meth c D ca bs b H locs lr hC hR hS hA hn hL => lv_icmp_lt hC.1 hC.2.1 d ht (fun h => kt h p l e R s m args below meth c D ca bs b H locs lr hC hR hS hA hn hL) (fun h => kf h p l e R s m args below meth c D ca bs b H locs lr hC hR hS hA hn hL)
theorem z_if_ge {x : Int32} {off : Int} (tgt : Nat) (ht : (pc : Int) + off = (tgt : Int)) (d : decode (zKc K) pc = .ok (.ifCond .ge off, 3))
    (kt : 0 ≤ x → zV F E K n0 o tgt ls sk M u us) (kf : ¬ 0 ≤ x → zV F E K n0 o (pc + 3) ls sk M u us) : zV F E K n0 o pc ls (.int x :: sk) M u us :=
  fun p l e R s m args below meth c D ca bs b H locs lr hC hR hS hA hn hL => lv_if_ge hC.1 hC.2.1 d ht (fun h => kt h p l e R s m args below meth c D ca bs b H locs lr hC hR hS hA hn hL) (fun h => kf h p l e R s m args below meth c D ca bs b H locs lr hC hR hS hA hn hL)
theorem z_icmp_ge {x y : Int32} {off : Int} (tgt : Nat) (ht : (pc : Int) + off = (tgt : Int)) (d : decode (zKc K) pc = .ok (.if_icmp .ge off, 3))
    (kt : y ≤ x → zV F E K n0 o tgt ls sk M u us) (kf : ¬ y ≤ x → zV F E K n0 o (pc + 3) ls sk M u us) : zV F E K n0 o pc ls (.int y :: .int x :: sk) M u us :=
  fun p l e R s m args below meth c D ca bs b H locs lr hC hR hS hA hn hL => lv_icmp_ge hC.1 hC.2.1 d ht (fun h => kt h p l e R s m args below meth c D ca bs b H locs lr hC hR hS hA hn hL) (fun h => kf h p l e R s m args below meth c D ca bs b H locs lr hC hR hS hA hn hL)
theorem z_if_gt {x : Int32} {off : Int} (tgt : Nat) (ht : (pc : Int) + off = (tgt : Int)) (d : decode (zKc K) pc = .ok (.ifCond .gt off, 3))
    (kt : 0 < x → zV F E K n0 o tgt ls sk M u us) (kf : ¬ 0 < x → zV F E K n0 o (pc + 3) ls sk M u us) : zV F E K n0 o pc ls (.int x :: sk) M u us :=
  fun p l e R s m args below meth c D ca bs b H locs lr hC hR hS hA hn hL => lv_if_gt hC.1 hC.2.1 d ht (fun h => kt h p l e R s m args below meth c D ca bs b H locs lr hC hR hS hA hn hL) (fun h => kf h p l e R s m args below meth c D ca bs b H locs lr hC hR hS hA hn hL)
theorem z_icmp_gt {x y : Int32} {off : Int} (tgt : Nat) (ht : (pc : Int) + off = (tgt : Int)) (d : decode (zKc K) pc = .ok (.if_icmp .gt off, 3))
    (kt : y < x → zV F E K n0 o tgt ls sk M u us) (kf : ¬ y < x → zV F E K n0 o (pc + 3) ls sk M u us) : zV F E K n0 o pc ls (.int y :: .int x :: sk) M u us :=
  fun p l e R s m args below meth c D ca bs b H locs lr hC hR hS hA hn hL => lv_icmp_gt hC.1 hC.2.1 d ht (fun h => kt h p l e R s m args below meth c D ca bs b H locs lr hC hR hS hA hn hL) (fun h => kf h p l e R s m args below meth c D ca bs b H locs lr hC hR hS hA hn hL)
theorem z_if_le {x : Int32} {off : Int} (tgt : Nat) (ht : (pc : Int) + off = (tgt : Int)) (d : decode (zKc K) pc = .ok (.ifCond .le off, 3))
    (kt : x ≤ 0 → zV F E K n0 o tgt ls sk M u us) (kf : ¬ x ≤ 0 → zV F E K n0 o (pc + 3) ls sk M u us) : zV F E K n0 o pc ls (.int x :: sk) M u us :=
  fun p l e R s m args below meth c D ca bs b H locs lr hC hR hS hA hn hL => lv_if_le hC.1 hC.2.1 d ht (fun h => kt h p l e R s m args below meth c D ca bs b H locs lr hC hR hS hA hn hL) (fun h => kf h p l e R s m args below meth c D ca bs b H locs lr hC hR hS hA hn hL)
theorem z_icmp_le {x y : Int32} {off : Int} (tgt : Nat) (ht : (pc : Int) + off = (tgt : Int)) (d : decode (zKc K) pc = .ok (.if_icmp .le off, 3))
    (kt : x ≤ y → zV F E K n0 o tgt ls sk M u us) (kf : ¬ x ≤ y → zV F E K n0 o (pc + 3) ls sk M u us) : zV F E K n0 o pc ls (.int y :: .int x :: sk) M u us :=
  fun p l e R s m args below meth c D ca bs b H locs lr hC hR hS hA hn hL => lv_icmp_le hC.1 hC.2.1 d ht (fun h => kt h p l e R s m args below meth c D ca bs b H locs lr hC hR hS hA hn hL) (fun h => kf h p l e R s m args below meth c D ca bs b H locs lr hC hR hS hA hn hL)
theorem z_istore_n {k4 : Fin 4} {i : Nat} {x : Int32} {ls1 : List Value} (hi : (k4 : Nat) = i) (hn : i < zKl K) (hl : ls.set i (.int x) = ls1) (d : decode (zKc K) pc = .ok (.istore_n k4, 1))
    (k : zV F E K n0 o (pc + 1) ls1 sk M u us) : zV F E K n0 o pc ls (.int x :: sk) M u us :=
  fun p l e R s m args below meth c D ca bs b H locs lr hC hR hS hA hn0 hL => lv_istore_n (nL := zKl K) hC.1 hC.2.1 d hi (zL_has hL) hn rfl (fun lr1 h1 => k p l e R s m args below meth c D ca bs b H locs lr1 hC hR hS hA hn0 (hl ▸ zL_set (x := .int x) hL rfl h1))
theorem z_istore {i : Nat} {x : Int32} {ls1 : List Value} (hn : i < zKl K) (hl : ls.set i (.int x) = ls1) (d : decode (zKc K) pc = .ok (.istore i, 2))
    (k : zV F E K n0 o (pc + 2) ls1 sk M u us) : zV F E K n0 o pc ls (.int x :: sk) M u us :=
  fun p l e R s m args below meth c D ca bs b H locs lr hC hR hS hA hn0 hL => lv_istore (nL := zKl K) hC.1 hC.2.1 d (zL_has hL) hn rfl (fun lr1 h1 => k p l e R s m args below meth c D ca bs b H locs lr1 hC hR hS hA hn0 (hl ▸ zL_set (x := .int x) hL rfl h1))
theorem z_astore_n {k4 : Fin 4} {i : Nat} {x : Nat} {ls1 : List Value} (hi : (k4 : Nat) = i) (hn : i < zKl K) (hl : ls.set i (.ref x) = ls1) (d : decode (zKc K) pc = .ok (.astore_n k4, 1))
    (k : zV F E K n0 o (pc + 1) ls1 sk M u us) : zV F E K n0 o pc ls (.ref x :: sk) M u us :=
  fun p l e R s m args below meth c D ca bs b H locs lr hC hR hS hA hn0 hL => lv_astore_n (nL := zKl K) hC.1 hC.2.1 d hi (zL_has hL) hn rfl (fun lr1 h1 => k p l e R s m args below meth c D ca bs b H locs lr1 hC hR hS hA hn0 (hl ▸ zL_set (x := .ref x) hL rfl h1))
theorem z_astore {i : Nat} {x : Nat} {ls1 : List Value} (hn : i < zKl K) (hl : ls.set i (.ref x) = ls1) (d : decode (zKc K) pc = .ok (.astore i, 2))
    (k : zV F E K n0 o (pc + 2) ls1 sk M u us) : zV F E K n0 o pc ls (.ref x :: sk) M u us :=
  fun p l e R s m args below meth c D ca bs b H locs lr hC hR hS hA hn0 hL => lv_astore (nL := zKl K) hC.1 hC.2.1 d (zL_has hL) hn rfl (fun lr1 h1 => k p l e R s m args below meth c D ca bs b H locs lr1 hC hR hS hA hn0 (hl ▸ zL_set (x := .ref x) hL rfl h1))
theorem z_iinc {i : Nat} {n : Int} {x : Int32} {ls1 : List Value} (v : Int32) (hg : ls[i]? = some (.int x)) (hv : x + Int32.ofInt n = v) (hn : i < zKl K) (hl : ls.set i (.int v) = ls1) (d : decode (zKc K) pc = .ok (.iinc i n, 3))
    (k : zV F E K n0 o (pc + 3) ls1 sk M u us) : zV F E K n0 o pc ls sk M u us := by
  intro p l e R s m args below meth c D ca bs b H locs lr hC hR hS hA hn0 hL
  have h9 : (i, Value.int x) ∈ zlv bs b ls := by
    have hlt : i < ls.length := (List.getElem?_eq_some_iff.mp hg).1
    simp only [zlv, List.mem_filterMap, List.mem_range]
    exact ⟨i, hlt, by rw [List.getD_eq_getElem?_getD, hg]; rfl⟩
  obtain ⟨q, hq⟩ := List.getElem?_of_mem h9
  exact lv_iinc (nL := zKl K) (k := q) hC.1 hC.2.1 d (zL_has hL) hq hv hn rfl (fun lr1 h1 => k p l e R s m args below meth c D ca bs b H locs lr1 hC hR hS hA hn0 (hl ▸ zL_set (x := .int v) hL rfl h1))
end ZR
end
section
/-! rows over the heap -/
def zu (f : Nat → Nat → Int32) (k j : Nat) (x : Int32) : Nat → Nat → Int32 := fun a b => if a = k then (if b = j then x else f a b) else f a b
def zur (f : Nat → Nat → Nat) (k j : Nat) (x : Nat) : Nat → Nat → Nat := fun a b => if a = k then (if b = j then x else f a b) else f a b
theorem zu_self (f : Nat → Nat → Int32) (k j : Nat) (x : Int32) : zu f k j x k = upd (f k) j x := by
  funext b; simp [zu, upd]
theorem zu_ne (f : Nat → Nat → Int32) {k a : Nat} (j : Nat) (x : Int32) (h : a ≠ k) : zu f k j x a = f a := by
  funext b; simp [zu, h]
theorem zur_ne (f : Nat → Nat → Nat) {k a : Nat} (j : Nat) (x : Nat) (h : a ≠ k) : zur f k j x a = f a := by
  funext b; simp [zur, h]
def zAt (M : zM) (k : Nat) (x : Nat × Nat) : Prop := zk M k = x ∧ 0 < k ∧ k ≤ zn M
/-- a field of a class, as a method of the class own links it -/
def zF (own : String) (idx ci k : Nat) : Prop := ∃ (C : String) (T : u_T) (N : Nat) (ty0 : Nat → FieldType), vwCl[ci]? = some (C, T, N) ∧ (zfl ci).length = N ∧ k < N ∧ (∀ w ∈ u_ws C T N, w ∈ zG) ∧ Cond.fieldLink own idx C (T k).2.1 (T k).2.2.1 ∈ zG ∧ (T k).1 = C ∧
  (∀ k, k < N → parseFieldDescriptor (T k).2.2.1 = some (ty0 k)) ∧ (∀ a, a < N → ∀ b, b < N → a ≠ b → (T a).2.1 ≠ (T b).2.1) ∧ ((zfl ci).getD k true = true → ty0 k = .int ∧ (T k).2.2.2 = false) ∧ ((zfl ci).getD k true = false → (T k).2.2.2 = true ∧ ∀ a : Nat, narrow (ty0 k) (.ref a) = .ref a ∧ fits (ty0 k) (.ref a) = true)
theorem zfs_get {bs : Nat} {m : Nat → Int32} {r : Nat → Nat} {fl : List Bool} {j : Nat} (h : j < fl.length) : (zfs bs m r fl)[j]? = some (zfv bs m r fl j) := by
  simp [zfs, List.getElem?_range h]
theorem zfs_len {bs : Nat} {m : Nat → Int32} {r : Nat → Nat} {fl : List Bool} : (zfs bs m r fl).length = fl.length := by simp [zfs]
theorem zfs_set {bs : Nat} {m m' : Nat → Int32} {r r' : Nat → Nat} {fl : List Bool} {j : Nat} {v : Value} (hv : zfv bs m' r' fl j = v) (ho : ∀ i, i ≠ j → m' i = m i ∧ r' i = r i) : (zfs bs m r fl).set j v = zfs bs m' r' fl := by
  apply List.ext_getElem?
  intro i
  rw [List.getElem?_set]
  by_cases hi : j = i
  · subst hi
    rw [if_pos rfl]
    by_cases hl : j < fl.length
    · rw [if_pos (by rw [zfs_len]; exact hl), zfs_get hl, hv]
    · rw [if_neg (by rw [zfs_len]; exact hl)]
      symm
      rw [List.getElem?_eq_none]
      rw [zfs_len]; omega
  · rw [if_neg hi]
    by_cases hl : i < fl.length
    · rw [zfs_get hl, zfs_get hl]
      have h := ho i (fun h => hi h.symm)
      simp [zfv, h.1, h.2]
    · rw [List.getElem?_eq_none (by rw [zfs_len]; omega), List.getElem?_eq_none (by rw [zfs_len]; omega)]
theorem zE_eq {ca : Nat → ClassId} {bs : Nat} {M M' : zM} {a : Nat} (h1 : zi M' a = zi M a) (h2 : zr M' a = zr M a) (h3 : zk M' a = zk M a) (h4 : zo M' = zo M) : zE ca bs M' a = zE ca bs M a := by
  unfold zE
  rw [h1, h2, h3, h4]
theorem zR_set {D : va_G} {ca : Nat → ClassId} {bs : Nat} {M M' : zM} {k : Nat} {H H1 : Heap} {A : Nat → Prop} {H0 : Heap} {locs locs1 : List Loc} (hR : zR D ca bs M H) (h0 : 0 < k) (hn : zn M' = zn M) (ht : zt M' = zt M) (ho : ∀ j, j ≠ k → zE ca bs M' j = zE ca bs M j)
    (h : va_P D vwCl ((zw ca bs M).set (k - 1) (bs + k, zE ca bs M' k)) H1) (hz : H1.size = H.size) : zR D ca bs M' H1 := by
  rw [zw_set h0 hn ho] at h
  exact ⟨h, fun q => by rw [hz, hn]; exact hR.2.1 (ht ▸ q), by rw [hn, hz]; exact hR.2.2⟩
section ZH
variable {F : Bool} {E : Nat × (Nat → Int32)} {K : zK} {n0 : Nat} {o : zO} {pc : Nat} {ls sk : List Value} {M : zM} {u us : Nat}
theorem z_getI {idx ci j k : Nat} (hf : zF (zKy K).cls idx ci j) (hk : zAt M k (0, ci)) (hi : (zfl ci).getD j true = true) (d : decode (zKc K) pc = .ok (.getfield idx, 3))
    (kk : zV F E K n0 o (pc + 3) ls (.int (zi M k j) :: sk) M u us) : zV F E K n0 o pc ls (.ref k :: sk) M u us := by
  obtain ⟨C, T, N, ty0, hc, hN, hj, hin, hl, hd, -, -, -, -⟩ := hf
  obtain ⟨hk1, hk2, hk3⟩ := hk
  refine zgo (fun p l e R s m args below meth c D ca bs b H locs lr Q hC hR hL k9 => ?_) kk
  have he : (zw ca bs M)[k - 1]? = some (bs + k, .inr (ci, zfs bs (zi M k) (zr M k) (zfl ci))) := by
    rw [zw_at hk2 hk3, zE, hk1]
    rfl
  have hg := va_get (D := D) (cl := vwCl) (C := C) (T := T) (N := N) (rest := sk.map (ztr bs b)) hC.1 hC.2.1 hC.2.2.2.2.1 hin hC.2.2.2.1 hC.2.2.2.2.2.2.2.2.2.1 hR.1 (k - 1) he hc j hj (hC.2.2.2.2.1 _ hl) (fun x h => by rw [hd] at h; exact h) (v := .int (zi M k j)) (by rw [zfs_get (by rw [hN]; exact hj), zfv, if_pos hi]) d k9
  have hz : zad bs b k = bs + k := if_neg (by omega)
  show W p l e R s m args below meth c H locs u us Q (F0 m pc lr (.ref (zad bs b k) :: sk.map (ztr bs b)))
  rw [hz]
  exact hg
theorem z_getR {idx ci j k : Nat} (k1 : Nat) (hf : zF (zKy K).cls idx ci j) (hk : zAt M k (0, ci)) (hi : (zfl ci).getD j true = false) (hr : zr M k j = k1) (h1 : 0 < k1) (d : decode (zKc K) pc = .ok (.getfield idx, 3))
    (kk : zV F E K n0 o (pc + 3) ls (.ref k1 :: sk) M u us) : zV F E K n0 o pc ls (.ref k :: sk) M u us := by
  obtain ⟨C, T, N, ty0, hc, hN, hj, hin, hl, hd, -, -, -, -⟩ := hf
  obtain ⟨hk1, hk2, hk3⟩ := hk
  refine zgo (fun p l e R s m args below meth c D ca bs b H locs lr Q hC hR hL k9 => ?_) kk
  have he : (zw ca bs M)[k - 1]? = some (bs + k, .inr (ci, zfs bs (zi M k) (zr M k) (zfl ci))) := by
    rw [zw_at hk2 hk3, zE, hk1]
    rfl
  have hz1 : zad bs b k1 = bs + k1 := if_neg (by omega)
  have k9' : W p l e R s m args below meth c H locs u us Q (F0 m (pc + 3) lr (.ref (zad bs b k1) :: sk.map (ztr bs b))) := k9
  rw [hz1] at k9'
  have hg := va_get (D := D) (cl := vwCl) (C := C) (T := T) (N := N) (rest := sk.map (ztr bs b)) hC.1 hC.2.1 hC.2.2.2.2.1 hin hC.2.2.2.1 hC.2.2.2.2.2.2.2.2.2.1 hR.1 (k - 1) he hc j hj (hC.2.2.2.2.1 _ hl) (fun x h => by rw [hd] at h; exact h) (v := .ref (bs + k1)) (by rw [zfs_get (by rw [hN]; exact hj), zfv, if_neg (by rw [hi]; decide), hr, if_neg (by omega)]) d k9'
  have hz : zad bs b k = bs + k := if_neg (by omega)
  show W p l e R s m args below meth c H locs u us Q (F0 m pc lr (.ref (zad bs b k) :: sk.map (ztr bs b)))
  rw [hz]
  exact hg
/-- the ways into the next state when one cell was set -/
theorem zV_next {p : Program} {l : Launch} {e : Env} {R : Room} {s : State} {m : MethodId} {args : Array Value} {below : List Frame} {meth : Method} {c : Code} {D : va_G} {ca : Nat → ClassId} {bs b : Nat} {H H1 : Heap} {locs1 : List Loc} {lr : Array Slot} {M' : zM} {k : Nat} {pc' : Nat} {sk' : List Value}
    (kk : zV F E K n0 o pc' ls sk' M' u us) (hC : zC E K p l R s m args meth c D ca bs b n0) (hR : zR D ca bs M H) (hA : ∀ q, bs < q → q ≤ bs + zn M → zA bs n0 s.heap.size q) (hn0 : n0 ≤ zn M) (hL : zL bs b ls lr (zKl K)) (h0 : 0 < k) (hn : zn M' = zn M) (ht : zt M' = zt M) (ho : ∀ j, j ≠ k → zE ca bs M' j = zE ca bs M j)
    (hP : va_P D vwCl ((zw ca bs M).set (k - 1) (bs + k, zE ca bs M' k)) H1) (hz : H1.size = H.size) (hS : va_S (zA bs n0 s.heap.size) s.heap H1 locs1) :
    W p l e R s m args below meth c H1 locs1 u us (zFin F K n0 o D ca bs b below args s) (F0 m pc' lr (sk'.map (ztr bs b))) :=
  kk p l e R s m args below meth c D ca bs b H1 locs1 lr hC (zR_set hR h0 hn ht ho hP hz (A := fun _ => True) (H0 := H) (locs := []) (locs1 := [])) hS (by rw [hn]; exact hA) (by rw [hn]; exact hn0) hL
theorem zE_obj {ca : Nat → ClassId} {bs k ci : Nat} {M : zM} (h : zk M k = (0, ci)) : zE ca bs M k = .inr (ci, zfs bs (zi M k) (zr M k) (zfl ci)) := by rw [zE, h]; rfl
theorem zE_int {ca : Nat → ClassId} {bs k n : Nat} {M : zM} (h : zk M k = (1, n)) : zE ca bs M k = .inl (ca 0, n, .inl (zi M k)) := by rw [zE, h]; rfl
theorem zE_bool {ca : Nat → ClassId} {bs k n : Nat} {M : zM} (h : zk M k = (2, n)) : zE ca bs M k = .inl (ca 1, n, .inl (zi M k)) := by rw [zE, h]; rfl
theorem zE_long {ca : Nat → ClassId} {bs k n : Nat} {M : zM} (h : zk M k = (3, n)) : zE ca bs M k = .inl (ca 2, n, .inr (.inl (fun _ => zo M))) := by rw [zE, h]; rfl
theorem zE_ref {ca : Nat → ClassId} {bs k n t : Nat} {M : zM} (ht : t = 4 ∨ t = 5) (h : zk M k = (t, n)) : zE ca bs M k = .inl (ca (t - 1), n, .inr (.inr (.inr (.inr (zq bs (zr M k)))))) := by rcases ht with rfl | rfl <;> (rw [zE, h]; rfl)
theorem zw_e {ca : Nat → ClassId} {bs k : Nat} {M : zM} {x : Nat × Nat} {e : va_E} (hk : zAt M k x) (he : zE ca bs M k = e) : (zw ca bs M)[k - 1]? = some (bs + k, e) := by rw [zw_at hk.2.1 hk.2.2, he]
theorem zad_eq {bs b k : Nat} (h : 0 < k) : zad bs b k = bs + k := if_neg (by omega)
theorem z_putI {idx ci j k : Nat} {x : Int32} (hf : zF (zKy K).cls idx ci j) (hk : zAt M k (0, ci)) (hi : (zfl ci).getD j true = true) (d : decode (zKc K) pc = .ok (.putfield idx, 3))
    (kk : zV F E K n0 o (pc + 3) ls sk (zu (zi M) k j x, M.2) u us) : zV F E K n0 o pc ls (.int x :: .ref k :: sk) M u us := by
  intro p l e R s m args below meth c D ca bs b H locs lr hC hR hS hA hn0 hL
  obtain ⟨C, T, N, ty0, hc, hN, hj, hin, hl, hd, hty, hnm, htI, -⟩ := hf
  obtain ⟨ht1, hfin⟩ := htI hi
  have hK := hC.2.2.2.2.2.2.2.2.2.1
  have hts := hC.2.2.2.2.1
  have he := zw_e (ca := ca) (bs := bs) hk (zE_obj hk.1)
  have hap := va_apart (own := C) hts hin ty0 hty hnm hK hc
  obtain ⟨r, h1, cell, q1, q2, q3, q4⟩ := hR.1 (k - 1) _ he
  cases Option.some.inj (h1.symm.trans hc)
  obtain ⟨hS9, hfc, kC, hkC, hkind⟩ := hK.1 ci _ hc
  obtain ⟨cf, kf, fi, f, hi9, hsl⟩ := hS9 j hj
  have hlay := hts _ (hin _ (u_in_lay hj))
  unfold u_lay at hlay
  rw [if_neg (by rw [hfin]; decide)] at hlay
  have hst := (u_facts hfc hkC (u_lays hts hin hj) hi9).1
  have h6 := u_store (v := .int x) hfc hkC hkind hlay hi9 (hty j hj) (by rw [ht1]; rfl) (by rw [ht1]; rfl)
  rw [hd] at hi9
  have hz := zad_eq (bs := bs) (b := b) hk.2.1
  show W p l e R s m args below meth c H locs u us _ (F0 m pc lr (.int x :: .ref (zad bs b k) :: sk.map (ztr bs b)))
  rw [hz]
  refine W.putK hC.1 hC.2.1 (f := f) ⟨hC.2.2.2.1, hts _ hl, ⟨_, _, _, hi9⟩, hst⟩ (by rw [q2]; exact h6) q1 q3 (by rw [hsl]; exact k2_hasslot (q4 j hj)) rfl rfl d fun H1 e1 e2 e3 => ?_
  rw [hsl] at e1 ⊢
  have hjl : j < (zfs bs (zi M k) (zr M k) (zfl ci)).length := by rw [zfs_len, hN]; exact hj
  refine zV_next (M := M) (k := k) kk hC hR hA hn0 hL hk.2.1 rfl rfl (fun a ha => zE_eq (zu_ne _ _ _ ha) rfl rfl rfl) ?_ e2 (hS.put e2 e3 (hA _ (by have := hk.2.1; omega) (by have := hk.2.2; omega)))
  refine hR.1.set (zw_D hA) he ?_ e3
  rw [zE_obj (M := (zu (zi M) k j x, M.2)) hk.1]
  refine ⟨_, hc, t_OB.to (V := updV (vp_V (zfs bs (zi M k) (zr M k) (zfl ci))) j (.int x)) ⟨_, e1, q2, q3, t_set q4 hap hj (.int x)⟩ (fun i _ => ?_)⟩
  rw [vp_updV_set hjl]
  rw [zfs_set (m' := (zu (zi M) k j x) k) (r' := zr M k)]
  · show zfv bs _ _ _ j = _
    rw [zfv, if_pos hi]
    simp [zu]
  · intro i hi; simp [zu, hi]
/-- a final field in its constructor -/
theorem z_putR {idx ci j k k1 : Nat} (hf : zF (zKy K).cls idx ci j) (hk : zAt M k (0, ci)) (hi : (zfl ci).getD j true = false) (h1 : 0 < k1) (hin : (zKy K).name = "<init>") (hdecl : ∀ C T N, vwCl[ci]? = some (C, T, N) → C = (zKy K).cls) (d : decode (zKc K) pc = .ok (.putfield idx, 3))
    (kk : zV F E K n0 o (pc + 3) ls sk (zi M, zur (zr M) k j k1, M.2.2) u us) : zV F E K n0 o pc ls (.ref k1 :: .ref k :: sk) M u us := by
  intro p l e R s m args below meth c D ca bs b H locs lr hC hR hS hA hn0 hL
  obtain ⟨C, T, N, ty0, hc, hN, hj, hin9, hl, hd, hty, hnm, -, htR⟩ := hf
  obtain ⟨hfin, htR⟩ := htR hi
  obtain ⟨hnar, hfit⟩ := htR (bs + k1)
  have hK := hC.2.2.2.2.2.2.2.2.2.1
  have hts := hC.2.2.2.2.1
  have he := zw_e (ca := ca) (bs := bs) hk (zE_obj hk.1)
  have hap := va_apart (own := C) hts hin9 ty0 hty hnm hK hc
  obtain ⟨r, hr1, cell, q1, q2, q3, q4⟩ := hR.1 (k - 1) _ he
  cases Option.some.inj (hr1.symm.trans hc)
  obtain ⟨hS9, hfc, kC, hkC, hkind⟩ := hK.1 ci _ hc
  obtain ⟨cf, kf, fi, f, hi9, hsl⟩ := hS9 j hj
  have hlay := hts _ (hin9 _ (u_in_lay hj))
  unfold u_lay at hlay
  rw [if_pos hfin] at hlay
  have hst := (u_facts hfc hkC (u_lays hts hin9 hj) hi9).1
  have hcf : m.cls = cf := by
    obtain ⟨_, _, c', _, _, _, -, -, hf', -, -, -, hown2, -⟩ := Cond.laysFinal_spec hlay
    have e1 : c' = cf := by have := hi9.symm.trans hf'; simp at this; exact this.1.symm
    rw [hd, hdecl _ _ _ hc] at hown2
    rw [← e1]; exact Option.some.inj (hC.2.2.2.1.symm.trans hown2)
  have h6 := u_fits hfc hkC hkind (Or.inr hlay) hi9 (hty j hj) hnar hfit
  rw [hd] at hi9
  have hz := zad_eq (bs := bs) (b := b) hk.2.1
  have hz1 := zad_eq (bs := bs) (b := b) h1
  show W p l e R s m args below meth c H locs u us _ (F0 m pc lr (.ref (zad bs b k1) :: .ref (zad bs b k) :: sk.map (ztr bs b)))
  rw [hz, hz1]
  refine W.putFinK hC.1 hC.2.1 hC.2.2.2.1 (hts _ hl) hi9 hst hcf (hC.2.2.2.2.2.2.2.2.2.2.2.2.2.2 hin) (by rw [q2]; exact h6) q1 q3 (by rw [hsl]; exact k2_hasslot (q4 j hj)) rfl rfl d fun H1 e1 e2 e3 => ?_
  rw [hsl] at e1 ⊢
  have hjl : j < (zfs bs (zi M k) (zr M k) (zfl ci)).length := by rw [zfs_len, hN]; exact hj
  refine zV_next (M := M) (k := k) kk hC hR hA hn0 hL hk.2.1 rfl rfl (fun a ha => zE_eq rfl (zur_ne _ _ _ ha) rfl rfl) ?_ e2 (hS.put e2 e3 (hA _ (by have := hk.2.1; omega) (by have := hk.2.2; omega)))
  refine hR.1.set (zw_D hA) he ?_ e3
  rw [zE_obj (M := (zi M, zur (zr M) k j k1, M.2.2)) hk.1]
  refine ⟨_, hc, t_OB.to (V := updV (vp_V (zfs bs (zi M k) (zr M k) (zfl ci))) j (.ref (bs + k1))) ⟨_, e1, q2, q3, t_set q4 hap hj (.ref (bs + k1))⟩ (fun i _ => ?_)⟩
  rw [vp_updV_set hjl]
  rw [zfs_set (m' := zi M k) (r' := (zur (zr M) k j k1) k)]
  · show zfv bs _ _ _ j = _
    rw [zfv, if_neg (by rw [hi]; decide)]
    simp [zur]
    omega
  · intro i hi; simp [zur, hi]
theorem z_iald {n k : Nat} {i : Int32} (hk : zAt M k (1, n)) (hin : vp_in i n) (d : decode (zKc K) pc = .ok (.iaload, 1))
    (kk : zV F E K n0 o (pc + 1) ls (.int (zi M k i.toNatClampNeg) :: sk) M u us) : zV F E K n0 o pc ls (.int i :: .ref k :: sk) M u us := by
  refine zgo (fun p l e R s m args below meth c D ca bs b H locs lr Q hC hR hL k9 => ?_) kk
  show W p l e R s m args below meth c H locs u us Q (F0 m pc lr (.int i :: .ref (zad bs b k) :: sk.map (ztr bs b)))
  rw [zad_eq hk.2.1]
  exact va_iald (rest := sk.map (ztr bs b)) hC.1 hC.2.1 hC.2.2.2.2.2.2.2.2.2.1 hR.1 (k - 1) 0 (zw_e hk (zE_int hk.1)) rfl hin d k9
theorem z_zald {n k : Nat} {i : Int32} (hk : zAt M k (2, n)) (hin : vp_in i n) (d : decode (zKc K) pc = .ok (.baload, 1))
    (kk : zV F E K n0 o (pc + 1) ls (.int (zi M k i.toNatClampNeg) :: sk) M u us) : zV F E K n0 o pc ls (.int i :: .ref k :: sk) M u us := by
  refine zgo (fun p l e R s m args below meth c D ca bs b H locs lr Q hC hR hL k9 => ?_) kk
  show W p l e R s m args below meth c H locs u us Q (F0 m pc lr (.int i :: .ref (zad bs b k) :: sk.map (ztr bs b)))
  rw [zad_eq hk.2.1]
  exact va_zald (rest := sk.map (ztr bs b)) hC.1 hC.2.1 hC.2.2.2.2.2.2.2.2.2.1 hR.1 (k - 1) 1 (zw_e hk (zE_bool hk.1)) rfl hin d k9
theorem z_lald {n k : Nat} {i : Int32} (hk : zAt M k (3, n)) (hin : vp_in i n) (d : decode (zKc K) pc = .ok (.laload, 1))
    (kk : zV F E K n0 o (pc + 1) ls (.long (zo M) :: sk) M u us) : zV F E K n0 o pc ls (.int i :: .ref k :: sk) M u us := by
  refine zgo (fun p l e R s m args below meth c D ca bs b H locs lr Q hC hR hL k9 => ?_) kk
  show W p l e R s m args below meth c H locs u us Q (F0 m pc lr (.int i :: .ref (zad bs b k) :: sk.map (ztr bs b)))
  rw [zad_eq hk.2.1]
  exact va_lald (rest := sk.map (ztr bs b)) hC.1 hC.2.1 hC.2.2.2.2.2.2.2.2.2.1 hR.1 (k - 1) 2 (zw_e hk (zE_long hk.1)) rfl hin d k9
theorem z_aald {n k t k1 : Nat} {i : Int32} (ht : t = 4 ∨ t = 5) (hk : zAt M k (t, n)) (hin : vp_in i n) (hr : zr M k i.toNatClampNeg = k1) (h1 : 0 < k1) (d : decode (zKc K) pc = .ok (.aaload, 1))
    (kk : zV F E K n0 o (pc + 1) ls (.ref k1 :: sk) M u us) : zV F E K n0 o pc ls (.int i :: .ref k :: sk) M u us := by
  refine zgo (fun p l e R s m args below meth c D ca bs b H locs lr Q hC hR hL k9 => ?_) kk
  show W p l e R s m args below meth c H locs u us Q (F0 m pc lr (.int i :: .ref (zad bs b k) :: sk.map (ztr bs b)))
  rw [zad_eq hk.2.1]
  have k9' : W p l e R s m args below meth c H locs u us Q (F0 m (pc + 1) lr (.ref (zad bs b k1) :: sk.map (ztr bs b))) := k9
  rw [zad_eq h1] at k9'
  have hq : zq bs (zr M k) i.toNatClampNeg = some (bs + k1) := by rw [zq, hr, if_neg (by omega)]
  rcases ht with rfl | rfl
  · exact va_aldq (rest := sk.map (ztr bs b)) (C := RX0) hC.1 hC.2.1 hC.2.2.2.2.2.2.2.2.2.1 hR.1 (k - 1) 3 (zw_e hk (zE_ref (Or.inl rfl) hk.1)) rfl hin d (by rw [hq]; exact k9')
  · exact va_aldq (rest := sk.map (ztr bs b)) (C := RX2) hC.1 hC.2.1 hC.2.2.2.2.2.2.2.2.2.1 hR.1 (k - 1) 4 (zw_e hk (zE_ref (Or.inr rfl) hk.1)) rfl hin d (by rw [hq]; exact k9')
theorem z_iast {n k : Nat} {i x : Int32} (hk : zAt M k (1, n)) (hin : vp_in i n) (d : decode (zKc K) pc = .ok (.iastore, 1))
    (kk : zV F E K n0 o (pc + 1) ls sk (zu (zi M) k i.toNatClampNeg x, M.2) u us) : zV F E K n0 o pc ls (.int x :: .int i :: .ref k :: sk) M u us := by
  intro p l e R s m args below meth c D ca bs b H locs lr hC hR hS hA hn0 hL
  have hK := hC.2.2.2.2.2.2.2.2.2.1
  have he := zw_e (ca := ca) (bs := bs) hk (zE_int hk.1)
  show W p l e R s m args below meth c H locs u us _ (F0 m pc lr (.int x :: .int i :: .ref (zad bs b k) :: sk.map (ztr bs b)))
  rw [zad_eq hk.2.1]
  refine W.iast hC.1 hC.2.1 (hR.1 (k - 1) _ he) ((hK.2 0 _ rfl).1 n (fun j => .int (zi M k j))) (fun q => by cases q) (by show ¬ (i < 0 ∨ (arrV _ _ _).slots.size ≤ _); rw [arrV_size]; exact hin) rfl rfl d fun H1 e1 e2 e3 => ?_
  refine zV_next (M := M) (k := k) kk hC hR hA hn0 hL hk.2.1 rfl rfl (fun a ha => zE_eq (zu_ne _ _ _ ha) rfl rfl rfl) ?_ e2 (hS.put e2 e3 (hA _ (by have := hk.2.1; omega) (by have := hk.2.2; omega)))
  refine hR.1.set (zw_D hA) he ?_ e3
  rw [zE_int (M := (zu (zi M) k i.toNatClampNeg x, M.2)) hk.1]
  show H1[bs + k]? = some (vp_cell _ _)
  rw [e1, vp_cell_i, vp_cell_i, arrV_store]
  show some (arrV _ _ _) = some (arrV _ _ (fun j => .int (zu (zi M) k i.toNatClampNeg x k j)))
  rw [zu_self]
  congr 2
  funext q
  by_cases hq : q = i.toNatClampNeg
  · subst hq
    simp [updV, upd]
  · simp [updV, upd, hq]
theorem z_zast {n k : Nat} {i x : Int32} (hk : zAt M k (2, n)) (hin : vp_in i n) (hx : x = 0 ∨ x = 1) (d : decode (zKc K) pc = .ok (.bastore, 1))
    (kk : zV F E K n0 o (pc + 1) ls sk (zu (zi M) k i.toNatClampNeg x, M.2) u us) : zV F E K n0 o pc ls (.int x :: .int i :: .ref k :: sk) M u us := by
  intro p l e R s m args below meth c D ca bs b H locs lr hC hR hS hA hn0 hL
  have hK := hC.2.2.2.2.2.2.2.2.2.1
  have he := zw_e (ca := ca) (bs := bs) hk (zE_bool hk.1)
  have hnx : narrow .boolean (.int x) = .int x := by rcases hx with rfl | rfl <;> rfl
  show W p l e R s m args below meth c H locs u us _ (F0 m pc lr (.int x :: .int i :: .ref (zad bs b k) :: sk.map (ztr bs b)))
  rw [zad_eq hk.2.1]
  refine W.zast hC.1 hC.2.1 (hR.1 (k - 1) _ he) ((hK.2 1 _ rfl).1 n (fun j => .int (zi M k j))) (fun q => by cases q) (by show ¬ (i < 0 ∨ (arrV _ _ _).slots.size ≤ _); rw [arrV_size]; exact hin) rfl rfl d fun H1 e1 e2 e3 => ?_
  rw [hnx] at e1
  refine zV_next (M := M) (k := k) kk hC hR hA hn0 hL hk.2.1 rfl rfl (fun a ha => zE_eq (zu_ne _ _ _ ha) rfl rfl rfl) ?_ e2 (hS.put e2 e3 (hA _ (by have := hk.2.1; omega) (by have := hk.2.2; omega)))
  refine hR.1.set (zw_D hA) he ?_ e3
  rw [zE_bool (M := (zu (zi M) k i.toNatClampNeg x, M.2)) hk.1]
  show H1[bs + k]? = some (vp_cell _ _)
  rw [e1, vp_cell_i, vp_cell_i, arrV_store]
  show some (arrV _ _ _) = some (arrV _ _ (fun j => .int (zu (zi M) k i.toNatClampNeg x k j)))
  rw [zu_self]
  congr 2
  funext q
  by_cases hq : q = i.toNatClampNeg
  · subst hq
    simp [updV, upd]
  · simp [updV, upd, hq]
/-- the one array of longs holds one: its one place is set -/
theorem z_last {k : Nat} {i : Int32} {x : Int64} (hk : zAt M k (3, 1)) (hone : ∀ j, j ≠ k → (zk M j).1 ≠ 3) (hin : i = 0) (d : decode (zKc K) pc = .ok (.lastore, 1))
    (kk : zV F E K n0 o (pc + 1) ls sk (zi M, zr M, zk M, zn M, zt M, x) u us) : zV F E K n0 o pc ls (.long x :: .int i :: .ref k :: sk) M u us := by
  intro p l e R s m args below meth c D ca bs b H locs lr hC hR hS hA hn0 hL
  subst hin
  have hK := hC.2.2.2.2.2.2.2.2.2.1
  have he := zw_e (ca := ca) (bs := bs) hk (zE_long hk.1)
  show W p l e R s m args below meth c H locs u us _ (F0 m pc lr (.long x :: .int 0 :: .ref (zad bs b k) :: sk.map (ztr bs b)))
  rw [zad_eq hk.2.1]
  refine W.last hC.1 hC.2.1 (hR.1 (k - 1) _ he) ((hK.2 2 _ rfl).1 1 (fun _ => .long (zo M))) (fun q => by cases q) (by show ¬ ((0 : Int32) < 0 ∨ (arrV _ _ _).slots.size ≤ _); rw [arrV_size]; exact (by decide : ¬ ((0 : Int32) < 0 ∨ 1 ≤ (0 : Int32).toNatClampNeg))) rfl rfl d fun H1 e1 e2 e3 => ?_
  refine zV_next (M := M) (k := k) kk hC hR hA hn0 hL hk.2.1 rfl rfl (fun a ha => ?_) ?_ e2 (hS.put e2 e3 (hA _ (by have := hk.2.1; omega) (by have := hk.2.2; omega)))
  · have h3 := hone a ha
    rcases hx : zk M a with ⟨t, n⟩
    rw [hx] at h3
    unfold zE
    rw [hx]
    match t, h3 with
    | 0, _ => rfl
    | 1, _ => rfl
    | 2, _ => rfl
    | 3, h3 => exact absurd rfl h3
    | 4, _ => rfl
    | _ + 5, _ => rfl
  refine hR.1.set (zw_D hA) he ?_ e3
  rw [zE_long (M := (zi M, zr M, zk M, zn M, zt M, x)) hk.1]
  show H1[bs + k]? = some (vp_cell _ _)
  rw [e1, vp_cell_l, vp_cell_l, arrV_store]
  apply congrArg some
  simp only [arrV]
  congr 1
end ZH
end
section
/-! rows that make cells; Object's constructor -/
def zkp (κ : Nat → Nat × Nat) (k : Nat) (x : Nat × Nat) : Nat → Nat × Nat := fun a => if a = k then x else κ a
/-- a new cell of kind x: all zero -/
def zNew (M : zM) (x : Nat × Nat) : zM := (fun a => if a = zn M + 1 then fun _ => 0 else zi M a, fun a => if a = zn M + 1 then fun _ => 0 else zr M a, zkp (zk M) (zn M + 1) x, zn M + 1, zt M, zo M)
theorem zNew_old {ca : Nat → ClassId} {bs : Nat} {M : zM} {x : Nat × Nat} {j : Nat} (h : j ≤ zn M) : zE ca bs (zNew M x) j = zE ca bs M j := by
  have h1 : j ≠ zn M + 1 := by omega
  exact zE_eq (if_neg h1 : (if j = zn M + 1 then fun _ => 0 else zi M j) = zi M j) (if_neg h1 : (if j = zn M + 1 then fun _ => 0 else zr M j) = zr M j) (if_neg h1 : (if j = zn M + 1 then x else zk M j) = zk M j) rfl
theorem zNew_k (M : zM) (x : Nat × Nat) : zk (zNew M x) (zn M + 1) = x := (if_pos rfl : (if zn M + 1 = zn M + 1 then x else zk M (zn M + 1)) = x)
theorem zNew_i (M : zM) (x : Nat × Nat) : zi (zNew M x) (zn M + 1) = fun _ => 0 := (if_pos rfl : (if zn M + 1 = zn M + 1 then (fun _ => 0) else zi M (zn M + 1)) = fun _ => 0)
theorem zNew_r (M : zM) (x : Nat × Nat) : zr (zNew M x) (zn M + 1) = fun _ => 0 := (if_pos rfl : (if zn M + 1 = zn M + 1 then (fun _ => 0) else zr M (zn M + 1)) = fun _ => 0)
/-- a class of our own, as a method of the class own makes objects of it -/
def zN (own : String) (idx ci : Nat) : Prop := ∃ (C : String) (T : u_T) (N : Nat) (ty0 : Nat → FieldType), vwCl[ci]? = some (C, T, N) ∧ (zfl ci).length = N ∧ (∀ w ∈ u_ws C T N, w ∈ zG) ∧ Cond.classLink own idx C ∈ zG ∧ Cond.instantiable C N ∈ zG ∧ Cond.initialized C ∈ zG ∧
  (∀ k, k < N → parseFieldDescriptor (T k).2.2.1 = some (ty0 k)) ∧ ∀ j, j < N → defaultValue (ty0 j) = if (zfl ci).getD j true = true then .int 0 else .null
section ZA
variable {F : Bool} {E : Nat × (Nat → Int32)} {K : zK} {n0 : Nat} {o : zO} {pc : Nat} {ls sk : List Value} {M : zM} {u us : Nat}
theorem zV_new {p : Program} {l : Launch} {e : Env} {R : Room} {s : State} {m : MethodId} {args : Array Value} {below : List Frame} {meth : Method} {c : Code} {D : va_G} {ca : Nat → ClassId} {bs b : Nat} {H H1 : Heap} {locs : List Loc} {lr : Array Slot} {x : Nat × Nat} {pc' : Nat} {sk' : List Value}
    (kk : zV F E K n0 o pc' ls sk' (zNew M x) u us) (hC : zC E K p l R s m args meth c D ca bs b n0) (hR : zR D ca bs M H) (ht : H.size = bs + zn M + 1) (hS : va_S (zA bs n0 s.heap.size) s.heap H locs) (hA : ∀ q, bs < q → q ≤ bs + zn M → zA bs n0 s.heap.size q) (hn0 : n0 ≤ zn M) (hL : zL bs b ls lr (zKl K))
    (z1 : H1.size = H.size + 1) (o1 : ∀ q, q < H.size → H1[q]? = H[q]?) (hat : va_at D vwCl (bs + (zn M + 1), zE ca bs (zNew M x) (zn M + 1)) H1) :
    W p l e R s m args below meth c H1 locs u us (zFin F K n0 o D ca bs b below args s) (F0 m pc' lr (sk'.map (ztr bs b))) := by
  have hz : s.heap.size ≤ H.size := hS.1
  refine kk p l e R s m args below meth c D ca bs b H1 locs lr hC ⟨?_, fun _ => by rw [z1, ht]; show _ = bs + (zn M + 1) + 1; omega, by rw [z1, ht]; show bs + (zn M + 1) < _; omega⟩ ⟨by omega, fun q h1 h2 => (o1 q (by omega)).trans (hS.2.1 q h1 h2), hS.2.2⟩ (fun q h1 h2 => ?_) (by show n0 ≤ zn M + 1; omega) hL
  · rw [← zw_push (M := M) (M' := zNew M x) rfl (fun j hj => zNew_old hj)]
    refine (hR.1.kept fun k q hq => ?_).app (fun k q hq => ?_)
    · exact o1 _ (hR.1 k q hq).lt
    · have hk : k < 1 := (List.getElem?_eq_some_iff.mp hq).1
      rw [show k = 0 by omega] at hq
      cases hq
      exact hat
  · by_cases hq : q ≤ bs + zn M
    · exact hA q h1 hq
    · right
      have h3 : q ≤ bs + (zn M + 1) := h2
      omega
theorem z_new {idx ci N : Nat} (hN9 : zN (zKy K).cls idx ci) (hN : (zfl ci).length = N) (ht : zt M = true) (hc : u + 1 ≤ zKm K) (hs : us + N ≤ zKs K) (d : decode (zKc K) pc = .ok (.new idx, 3))
    (kk : zV F E K n0 o (pc + 3) ls (.ref (zn M + 1) :: sk) (zNew M (0, ci)) (u + 1) (us + N)) : zV F E K n0 o pc ls sk M u us := by
  intro p l e R s m args below meth c D ca bs b H locs lr hC hR hS hA hn0 hL
  obtain ⟨C, T, N', ty0, hcl, hN', hin, h1, h2, h3, hty, hdf⟩ := hN9
  have hNN : N' = N := hN'.symm.trans hN
  subst hNN
  have hK := hC.2.2.2.2.2.2.2.2.2.1
  have hts := hC.2.2.2.2.1
  have hKn := hK.1 ci _ hcl
  have hRm : R = zrm K := hC.2.2.2.2.2.2.1
  refine W.newcK hC.1 hC.2.1 hC.2.2.2.1 (hts _ h1) (hts _ h2) (hts _ h3) rfl d (by rw [hRm]; exact hc) (by rw [hRm]; exact hs) hKn.2.1 rfl fun H1 kC hkC e1 z1 o1 => ?_
  have hsz := hR.2.1 ht
  have hz : zad bs b (zn M + 1) = H.size := by rw [zad_eq (by omega), hsz]; omega
  have h9 := zV_new (x := (0, ci)) (H1 := H1) (lr := lr) (below := below) (e := e) kk hC hR hsz hS hA hn0 hL z1 o1 (by
    rw [zE_obj (zNew_k M (0, ci)), zNew_i, zNew_r, show bs + (zn M + 1) = H.size by omega]
    refine ⟨_, hcl, (u_born ty0 hts hin hKn hkC e1 hty).to fun j hj => ?_⟩
    have hv : vp_V (zfs bs (fun _ => 0) (fun _ => 0) (zfl ci)) j = zfv bs (fun _ => 0) (fun _ => 0) (zfl ci) j := by
      show (zfs bs (fun _ => 0) (fun _ => 0) (zfl ci)).getD j .null = _
      rw [List.getD_eq_getElem?_getD, zfs_get (by omega)]
      rfl
    rw [hdf j hj]
    show _ = vp_V (zfs bs (fun _ => 0) (fun _ => 0) (zfl ci)) j
    rw [hv, zfv]
    rfl)
  have h9' : W p l e R s m args below meth c H1 locs (u + 1) (us + N') (zFin F K n0 o D ca bs b below args s) (F0 m (pc + 3) lr (.ref (zad bs b (zn M + 1)) :: sk.map (ztr bs b))) := h9
  rw [hz] at h9'
  exact h9'
theorem z_newarr {atype : ArrayType} {t N : Nat} {n : Int32} (htt : (t = 1 ∧ atype = .int) ∨ (t = 2 ∧ atype = .boolean) ∨ (t = 3 ∧ atype = .long ∧ zo M = 0)) (hw : Cond.arrayClass (newarray.typeOf atype) ∈ zG) (hn : ¬ n < 0) (hN : n.toNatClampNeg = N) (hN2 : N ≤ 1000) (ht : zt M = true) (hc : u + 1 ≤ zKm K) (hs : us + N ≤ zKs K) (d : decode (zKc K) pc = .ok (.newarray atype, 2))
    (kk : zV F E K n0 o (pc + 2) ls (.ref (zn M + 1) :: sk) (zNew M (t, N)) (u + 1) (us + N)) : zV F E K n0 o pc ls (.int n :: sk) M u us := by
  intro p l e R s m args below meth c D ca bs b H locs lr hC hR hS hA hn0 hL
  have hK := hC.2.2.2.2.2.2.2.2.2.1
  have hts := hC.2.2.2.2.1
  have hRm : R = zrm K := hC.2.2.2.2.2.2.1
  have hsz := hR.2.1 ht
  have hz : zad bs b (zn M + 1) = H.size := by rw [zad_eq (by omega), hsz]; omega
  have hb : N * componentBytes (newarray.typeOf atype) ≤ 536870912 := by
    rcases htt with ⟨-, rfl⟩ | ⟨-, rfl⟩ | ⟨-, rfl, -⟩
    · show N * 4 ≤ _; omega
    · show N * 1 ≤ _; omega
    · show N * 8 ≤ _; omega
  refine va_newaK hC.1 hC.2.1 (hts _ hw) rfl d rfl hn hN hb (by rw [hRm]; exact hc) (by rw [hRm]; exact hs) rfl fun H1 cA e1 z1 o1 hAr hNm => ?_
  have h9 := zV_new (x := (t, N)) (H1 := H1) (lr := lr) (below := below) (e := e) kk hC hR hsz hS hA hn0 hL z1 o1 (by
    rw [show bs + (zn M + 1) = H.size by omega]
    rcases htt with ⟨rfl, rfl⟩ | ⟨rfl, rfl⟩ | ⟨rfl, rfl, h0⟩
    · rw [zE_int (zNew_k M (1, N)), zNew_i]
      have hcA : ca 0 = cA := Option.some.inj ((hK.2 0 _ rfl).2.symm.trans hNm)
      show H1[H.size]? = some (vp_cell _ _)
      rw [e1, vp_cell_i, hcA]
      rfl
    · rw [zE_bool (zNew_k M (2, N)), zNew_i]
      have hcA : ca 1 = cA := Option.some.inj ((hK.2 1 _ rfl).2.symm.trans hNm)
      show H1[H.size]? = some (vp_cell _ _)
      rw [e1, vp_cell_i, hcA]
      rfl
    · rw [zE_long (zNew_k M (3, N))]
      have hcA : ca 2 = cA := Option.some.inj ((hK.2 2 _ rfl).2.symm.trans hNm)
      show H1[H.size]? = some (vp_cell _ _)
      rw [e1, vp_cell_l, hcA]
      show _ = some (arrV cA N (fun _ => .long (zo M)))
      rw [h0]
      rfl)
  have h9' : W p l e R s m args below meth c H1 locs (u + 1) (us + N) (zFin F K n0 o D ca bs b below args s) (F0 m (pc + 2) lr (.ref (zad bs b (zn M + 1)) :: sk.map (ztr bs b))) := h9
  rw [hz] at h9'
  exact h9'
theorem z_anewarr {idx t N : Nat} {C : String} {n : Int32} (htt : (t = 4 ∧ C = RX0) ∨ (t = 5 ∧ C = RX2)) (hw : Cond.classLink (zKy K).cls idx C ∈ zG) (hn : ¬ n < 0) (hN : n.toNatClampNeg = N) (hN2 : N ≤ 1000) (ht : zt M = true) (hc : u + 1 ≤ zKm K) (hs : us + N ≤ zKs K) (d : decode (zKc K) pc = .ok (.anewarray idx, 3))
    (kk : zV F E K n0 o (pc + 3) ls (.ref (zn M + 1) :: sk) (zNew M (t, N)) (u + 1) (us + N)) : zV F E K n0 o pc ls (.int n :: sk) M u us := by
  intro p l e R s m args below meth c D ca bs b H locs lr hC hR hS hA hn0 hL
  have hK := hC.2.2.2.2.2.2.2.2.2.1
  have hts := hC.2.2.2.2.1
  have hRm : R = zrm K := hC.2.2.2.2.2.2.1
  have hEv := hC.2.2.2.2.2.2.2.2.2.2.1
  have hsz := hR.2.1 ht
  have hz : zad bs b (zn M + 1) = H.size := by rw [zad_eq (by omega), hsz]; omega
  have hao : va_AO C s := by
    rcases htt with ⟨-, rfl⟩ | ⟨-, rfl⟩
    · exact hEv.2.2.2.2.2.2.1
    · exact hEv.2.2.2.2.2.2.2.1
  subst hN
  refine W.anew hC.1 hC.2.1 hC.2.2.2.1 (hts _ hw) (va_AO.use hao) rfl d rfl hn (by omega) (by rw [hRm]; exact hc) (by rw [hRm]; exact hs) fun cA kA comp f1 f2 f3 f4 => ?_
  generalize hH1 : H.push ({ cls := cA, slots := Array.replicate n.toNatClampNeg .null, vm := .none } : Cell) = H1
  have z1 : H1.size = H.size + 1 := by rw [← hH1, Array.size_push]
  have e1 : H1[H.size]? = some (arrV cA n.toNatClampNeg (fun _ => .null)) := by rw [← hH1, Array.getElem?_push_size, ← arrV_new]
  have o1 : ∀ q : Nat, q < H.size → H1[q]? = H[q]? := fun q hq => by rw [← hH1, Array.getElem?_push, if_neg (Nat.ne_of_lt hq)]
  have h9 := zV_new (x := (t, n.toNatClampNeg)) (H1 := H1) (lr := lr) (below := below) (e := e) kk hC hR hsz hS hA hn0 hL z1 o1 (by
    rw [show bs + (zn M + 1) = H.size by omega]
    rcases htt with ⟨rfl, rfl⟩ | ⟨rfl, rfl⟩
    · rw [zE_ref (Or.inl rfl) (zNew_k M (4, _)), zNew_r]
      obtain ⟨kA', comp', q1, q2, q3, q4⟩ := (hK.2 3 _ rfl).2
      have hcA : ca 3 = cA := Option.some.inj (q4.symm.trans f1)
      show H1[H.size]? = some (vp_cell _ _)
      rw [e1, vp_cell_q, hcA]
      rfl
    · rw [zE_ref (Or.inr rfl) (zNew_k M (5, _)), zNew_r]
      obtain ⟨kA', comp', q1, q2, q3, q4⟩ := (hK.2 4 _ rfl).2
      have hcA : ca 4 = cA := Option.some.inj (q4.symm.trans f1)
      show H1[H.size]? = some (vp_cell _ _)
      rw [e1, vp_cell_q, hcA]
      rfl)
  have h9' : W p l e R s m args below meth c H1 locs (u + 1) (us + n.toNatClampNeg) (zFin F K n0 o D ca bs b below args s) (F0 m (pc + 3) lr (.ref (zad bs b (zn M + 1)) :: sk.map (ztr bs b))) := h9
  rw [hz] at h9'
  exact h9'
theorem z_aast {n k t ci v : Nat} {i : Int32} (htt : (t = 4 ∧ ci = 0) ∨ (t = 5 ∧ ci = 2)) (hk : zAt M k (t, n)) (hv : zAt M v (0, ci)) (hin : vp_in i n) (d : decode (zKc K) pc = .ok (.aastore, 1))
    (kk : zV F E K n0 o (pc + 1) ls sk (zi M, zur (zr M) k i.toNatClampNeg v, M.2.2) u us) : zV F E K n0 o pc ls (.ref v :: .int i :: .ref k :: sk) M u us := by
  intro p l e R s m args below meth c D ca bs b H locs lr hC hR hS hA hn0 hL
  have hK := hC.2.2.2.2.2.2.2.2.2.1
  have ht : t = 4 ∨ t = 5 := htt.imp And.left And.left
  have he := zw_e (ca := ca) (bs := bs) hk (zE_ref ht hk.1)
  have hev := zw_e (ca := ca) (bs := bs) hv (zE_obj hv.1)
  have h0 : ¬ i < 0 := fun q => hin (Or.inl q)
  have hlt : i.toNatClampNeg < n := Nat.not_le.mp fun q => hin (Or.inr q)
  show W p l e R s m args below meth c H locs u us _ (F0 m pc lr (.ref (zad bs b v) :: .int i :: .ref (zad bs b k) :: sk.map (ztr bs b)))
  rw [zad_eq hk.2.1, zad_eq hv.2.1]
  obtain ⟨r', hr', cellV, g1, g2, g3, -⟩ := hR.1 (v - 1) _ hev
  have hcls := (hK.1 ci _ hr').2
  obtain ⟨kA, comp, k1, k2, k3⟩ : ∃ (kA : Class) (comp : ClassId), s.vm.classes[ca (t - 1)]? = some kA ∧ kA.kind = .array comp (.object r'.1) ∧ s.vm.findClass r'.1 = some comp := by
    rcases htt with ⟨rfl, rfl⟩ | ⟨rfl, rfl⟩
    · obtain ⟨kA, comp, a1, a2, a3, -⟩ := (hK.2 3 _ rfl).2
      cases hr'
      exact ⟨kA, comp, a1, a2, a3⟩
    · obtain ⟨kA, comp, a1, a2, a3, -⟩ := (hK.2 4 _ rfl).2
      cases hr'
      exact ⟨kA, comp, a1, a2, a3⟩
  have hcomp : comp = D.1 ci := Option.some.inj (k3.symm.trans hcls.1)
  subst hcomp
  obtain ⟨kC, hkC, -⟩ := hcls.2
  refine W.aast hC.1 hC.2.1 (hR.1 (k - 1) _ he) (fun q h => by cases h) (fun h => by cases h) k1 k2 rfl hkC ⟨h0, by show _ < (arrV _ _ _).slots.size; rw [arrV_size]; exact hlt⟩ g1 (fun q h => by rw [g3] at h; cases h) (by rw [g2]; exact hkC) (by rw [g2]; exact va_assign hcls) rfl rfl d fun H1 e1 e2 e3 => ?_
  refine zV_next (M := M) (k := k) kk hC hR hA hn0 hL hk.2.1 rfl rfl (fun a ha => zE_eq rfl (zur_ne _ _ _ ha) rfl rfl) ?_ e2 (hS.put e2 e3 (hA _ (by have := hk.2.1; omega) (by have := hk.2.2; omega)))
  refine hR.1.set (zw_D hA) he ?_ e3
  rw [zE_ref (M := (zi M, zur (zr M) k i.toNatClampNeg v, M.2.2)) ht hk.1]
  show H1[bs + k]? = some (vp_cell _ _)
  rw [e1, vp_cell_q, vp_cell_q, arrV_store]
  congr 2
  funext q
  have hv0 : v ≠ 0 := by have := hv.2.1; omega
  by_cases hq : q = i.toNatClampNeg
  · subst hq
    simp [updV, zq, zur, va_rf, zr, hv0]
  · simp [updV, zq, zur, va_rf, zr, hq]
theorem z_objInit {idx k : Nat} (hw : Cond.methodLink (zKy K).cls idx objectInit ∈ zG) (hw2 : Cond.instanceMethod objectInit ∈ zG) (hw3 : Cond.code objectInit ⟨#[0xb1]⟩ 1 none ∈ zG) (hf : 1 ≤ zKf K) (ho : (sk.map fun v => v.category).sum + 12 ≤ zKo K) (d : decode (zKc K) pc = .ok (.invokespecial idx, 3))
    (kk : zV F E K n0 o (pc + 3) ls sk M u us) : zV F E K n0 o pc ls (.ref k :: sk) M u us := by
  refine zgo (fun p l e R s m args below meth c D ca bs b H locs lr Q hC hR hL k9 => ?_) kk
  have hts := hC.2.2.2.2.1
  have hRm : R = zrm K := hC.2.2.2.2.2.2.1
  refine W.objInit hC.1 hC.2.1 hC.2.2.2.1 (hts _ hw) (hts _ hw2) (hts _ hw3) rfl (by rw [hC.2.2.1]; exact hL.1) rfl d (by rw [hRm]; exact hf) ?_ k9
  rw [hRm]
  show 2 * 0 + ((sk.map (ztr bs b)).map fun v => v.category).sum + 12 ≤ zKo K
  rw [List.map_map]
  have : ((fun v : Value => v.category) ∘ ztr bs b) = fun v => v.category := by funext v; exact ztr_cat
  rw [this]
  omega
end ZA
end
section
/-! ends, calls, throws, catches -/
def zFz (M : zM) : zM := (zi M, zr M, zk M, zn M, false, zo M)
/-- a method's own words lie in the tables -/
def zOk (K : zK) (n : Nat) : Prop := zcw K ∈ zG ∧ Cond.initialized (zKy K).cls ∈ zG ∧ (zKy K).cls ≠ "java/lang/invoke/MethodHandle" ∧ (zKy K).cls ≠ "java/lang/invoke/VarHandle" ∧ (parseMethodDescriptor (zKy K).desc).map (fun d => d.parameters.length) = some n ∧ plainName (zKy K).cls = true
def zLV (own : String) (idx : Nat) (y : MethodName) : Prop := Cond.methodLink own idx y ∈ zG ∧ Cond.instanceMethod y ∈ zG ∧ Cond.selects y.cls y y ∈ zG
def zLS (own : String) (idx : Nat) (y : MethodName) : Prop := Cond.methodLink own idx y ∈ zG ∧ Cond.static y ∈ zG
def zLSN (own : String) (idx : Nat) (y : MethodName) : Prop := (∃ host, (own, idx, y, host) ∈ zNests) ∧ Cond.static y ∈ zG
def zLI (own : String) (idx : Nat) (y : MethodName) : Prop := Cond.methodLink own idx y ∈ zG ∧ Cond.instanceMethod y ∈ zG ∧ y.name = "<init>"
def zLIN (own : String) (idx : Nat) (y : MethodName) : Prop := (∃ host, (own, idx, y, host) ∈ zNests) ∧ Cond.instanceMethod y ∈ zG ∧ y.name = "<init>"
theorem zws_good {K : zK} {n : Nat} (h : zOk K n) : ∀ w ∈ zws K, w ∈ zG := fun w hw => (List.mem_cons.mp hw).elim (fun e => e ▸ h.1) id
theorem zG_pay {s : State} {args : Array Value} (hts : ∀ w ∈ zG, w.before args s = true) {ws : List Cond} (hw : ∀ w ∈ ws, w ∈ zG) : ∀ w ∈ ws, ∀ (a' : Array Value) (U : State), s.WarmedH U.vm → w.before a' U = true :=
  pay_in hts fun w h => ⟨hw w h, good_of_word (zG_good (hw w h))⟩
theorem zn_len {y : MethodName} {n : Nat} (h : (parseMethodDescriptor y.desc).map (fun d => d.parameters.length) = some n) : ∀ sig, parseMethodDescriptor y.desc = some sig → n = sig.parameters.length := by
  intro sig h2
  rw [h2] at h
  exact (Option.some.inj h).symm
theorem zcw_plain {K : zK} (h : zKh K = []) : zcw K = .code (zKy K) (zKc K) (zKl K) (zKr K) := by rw [zcw, h]
theorem zcw_with {K : zK} {x : Nat × Nat × Nat × Nat} {t : List (Nat × Nat × Nat × Nat)} (h : zKh K = x :: t) : zcw K = .codeWith (zKy K) (zKc K) (zKl K) (zKr K) (zKh K) := by rw [zcw, h]
theorem zPre_blind {E : Nat × (Nat → Int32)} {D : va_G} {ca : Nat → ClassId} {bs b sz : Nat} {M : zM} {as : List Value} : FrameBlind (va_Pc as (zPre E D ca bs b M sz)) := by
  intro a U g mk h
  obtain ⟨h1, h2, h3, h4, h5, h6⟩ := h
  exact ⟨h1, h2, h3, va_K.moved (u := U) (U := U.calling g mk a) (Vm.Alike.refl U.vm) h4, zEv.same (u := U) (U := U.calling g mk a) rfl h5, h6⟩
section ZC
variable {F : Bool} {E : Nat × (Nat → Int32)} {K K9 : zK} {n0 : Nat} {o : zO} {pc : Nat} {ls sk : List Value} {M M' : zM} {u us : Nat}
section ZC1
variable {p : Program} {l : Launch} {e : Env} {R : Room} {s : State} {m : MethodId} {args : Array Value} {below : List Frame} {meth : Method} {c : Code} {D : va_G} {ca : Nat → ClassId} {bs b : Nat} {H : Heap} {locs : List Loc} {lr : Array Slot}
theorem zA_b (hC : zC E K p l R s m args meth c D ca bs b n0) : ¬ zA bs n0 s.heap.size b := by
  have h1 := hC.2.2.2.2.2.2.2.2.2.2.2.2.1
  have h2 := hC.2.2.2.2.2.2.2.2.2.2.1.2.2.2.2.2.1
  intro h
  rcases h with h | h
  · omega
  · omega
theorem zA_sub (hS : va_S (zA bs n0 s.heap.size) s.heap H locs) (hA : ∀ q, bs < q → q ≤ bs + zn M → zA bs n0 s.heap.size q) : ∀ q, zA bs (zn M) H.size q → zA bs n0 s.heap.size q := by
  intro q h
  rcases h with h | h
  · exact hA q h.1 h.2
  · exact Or.inr (Nat.le_trans hS.1 h)
theorem zPre_of (hC : zC E K p l R s m args meth c D ca bs b n0) (hR : zR D ca bs M H) (hS : va_S (zA bs n0 s.heap.size) s.heap H locs) (hA : ∀ q, bs < q → q ≤ bs + zn M → zA bs n0 s.heap.size q) :
    ∀ U : State, U.heap = H → s.WarmedH U.vm → zPre E D ca bs b M H.size U := by
  intro U hU hW
  have hEv := hC.2.2.2.2.2.2.2.2.2.2.1
  have h1 : zEv b E.1 E.2 (zA bs (zn M) H.size) s H := hEv.kept hS.1 hS.2.1 (zA_b hC) (zA_sub hS hA)
  exact ⟨by rw [hU], by rw [hU]; exact hR, va_K.moved hW.alike hC.2.2.2.2.2.2.2.2.2.1, by rw [hU]; exact h1.moved hW, hC.2.2.2.2.2.2.2.2.2.2.2.2.1⟩
/-- behind a call that returned -/
theorem zV_back {st0 : List Value} {a : Array Value} {v : Option Value} (hr : vx_Run p l e R s m args below meth c H locs u us (zKm K9) (zKs K9) (F0 m pc lr st0) (sk.map (ztr bs b)) (zQc D ca bs b (zA bs (zn M) H.size) (.inl v, M') a) (zXc D ca bs (zA bs (zn M) H.size) (.inl v, M')) (zA bs (zn M) H.size))
    (kk : zV F E K n0 o (pc + 3) ls (v.toList ++ sk) M' (u + zKm K9) (us + zKs K9)) (hC : zC E K p l R s m args meth c D ca bs b n0) (hR : zR D ca bs M H) (hS : va_S (zA bs n0 s.heap.size) s.heap H locs) (hA : ∀ q, bs < q → q ≤ bs + zn M → zA bs n0 s.heap.size q) (hn0 : n0 ≤ zn M) (hL : zL bs b ls lr (zKl K)) (hMM : zn M ≤ zn M' ∧ (zn M < zn M' → zt M = true)) :
    W p l e R s m args below meth c H locs u us (zFin F K n0 o D ca bs b below args s) (F0 m pc lr st0) := by
  intro T hT X
  rcases hr T hT X with ⟨v', st₀, t, T', L, h0, X', hL9, e1, e2, ⟨w, hw, hv, hR', hF⟩, st⟩ | ⟨q, st₀, t, T', L, Ex, ce, h0, X', hL9, e1, e2, ⟨hw, -, -⟩, -⟩
  · cases hw
    obtain rfl : v' = v.map (ztr bs b) := Outcome.returned.inj hv
    obtain ⟨k1, k2, k3⟩ := vx_keep h0 e1 hS (fun q _ h => zA_sub hS hA q h) (zA_sub hS hA) hL9 hF
    have h9 := kk p l e R s m args below meth c D ca bs b T'.heap (locs ++ L) lr hC (by rw [e1]; exact hR') k3 (fun q h1 h2 => ?_) (Nat.le_trans hn0 hMM.1) hL
    · obtain ⟨t2, a1, b1⟩ := h9 T' rfl X'
      refine ⟨t2, st t2 ?_, b1⟩
      rw [List.map_append] at a1
      have : v.toList.map (ztr bs b) = (v.map (ztr bs b)).toList := by cases v <;> rfl
      rw [this] at a1
      exact a1
    · by_cases hq : q ≤ bs + zn M
      · exact hA q h1 hq
      · right
        have h3 := hR.2.1 (hMM.2 (by omega))
        have h4 := hS.1
        omega
  · cases hw
end ZC1
/-- an exception Ex lies over the frame -/
def zX (F : Bool) (E : Nat × (Nat → Int32)) (K : zK) (n0 : Nat) (o : zO) (pc : Nat) (ls : List Value) (M : zM) (u us : Nat) (Ex : String) : Prop :=
  ∀ (p : Program) (l : Launch) (e : Env) (R : Room) (s : State) (m : MethodId) (args : Array Value) (below : List Frame) (meth : Method) (c : Code) (D : va_G) (ca : Nat → ClassId) (bs b : Nat) (H : Heap) (locs : List Loc) (lr : Array Slot) (rest : List Value) (q : Addr) (ce : Cell),
    zC E K p l R s m args meth c D ca bs b n0 → zR D ca bs M H → va_S (zA bs n0 s.heap.size) s.heap H locs → (∀ q, bs < q → q ≤ bs + zn M → zA bs n0 s.heap.size q) → n0 ≤ zn M → zL bs b ls lr (zKl K) → H[q]? = some ce → ce.vm = .none → s.vm.findClass Ex = some ce.cls →
    vx_W p l e R s m args below meth c H locs u us (zFin F K n0 o D ca bs b below args s) (F0 m pc lr rest) q
section ZC2
variable {p : Program} {l : Launch} {e : Env} {R : Room} {s : State} {m : MethodId} {args : Array Value} {below : List Frame} {meth : Method} {c : Code} {D : va_G} {ca : Nat → ClassId} {bs b : Nat} {H : Heap} {locs : List Loc} {lr : Array Slot}
/-- behind a call that threw -/
theorem zV_thrown {st0 : List Value} {a : Array Value} {Ex : String} (hr : vx_Run p l e R s m args below meth c H locs u us (zKm K9) (zKs K9) (F0 m pc lr st0) (sk.map (ztr bs b)) (zQc D ca bs b (zA bs (zn M) H.size) (.inr Ex, M') a) (zXc D ca bs (zA bs (zn M) H.size) (.inr Ex, M')) (zA bs (zn M) H.size))
    (kk : zX F E K n0 o pc ls M' (u + zKm K9) (us + zKs K9) Ex) (hC : zC E K p l R s m args meth c D ca bs b n0) (hR : zR D ca bs M H) (hS : va_S (zA bs n0 s.heap.size) s.heap H locs) (hA : ∀ q, bs < q → q ≤ bs + zn M → zA bs n0 s.heap.size q) (hn0 : n0 ≤ zn M) (hL : zL bs b ls lr (zKl K)) (hMM : zn M ≤ zn M' ∧ (zn M < zn M' → zt M = true)) :
    W p l e R s m args below meth c H locs u us (zFin F K n0 o D ca bs b below args s) (F0 m pc lr st0) := by
  intro T hT X
  rcases hr T hT X with ⟨v', st₀, t, T', L, h0, X', hL9, e1, e2, ⟨w, hw, -, -, -⟩, -⟩ | ⟨q, st₀, t, T', L, Ex', ce, h0, X', hL9, e1, e2, ⟨hw, hR', hF⟩, hce, hcv, hcl, st⟩
  · cases hw
  · cases hw
    obtain ⟨k1, k2, k3⟩ := vx_keep h0 e1 hS (fun q _ h => zA_sub hS hA q h) (zA_sub hS hA) hL9 hF
    have h9 := kk p l e R s m args below meth c D ca bs b T'.heap (locs ++ L) lr (sk.map (ztr bs b)) q ce hC (by rw [e1]; exact hR') k3 (fun q h1 h2 => ?_) (Nat.le_trans hn0 hMM.1) hL (by rw [e1]; exact hce) hcv hcl
    · obtain ⟨t2, a1, b1⟩ := h9 T' rfl X'
      exact ⟨t2, st.trans a1, b1⟩
    · by_cases hq : q ≤ bs + zn M
      · exact hA q h1 hq
      · right
        have h3 := hR.2.1 (hMM.2 (by omega))
        have h4 := hS.1
        omega
theorem zFix (hC : zC E K p l R s m args meth c D ca bs b n0) : CallFix p m c (zKc K) (zKl K) s args zG (zKy K).cls := ⟨hC.1, hC.2.1, hC.2.2.1, hC.2.2.2.1, hC.2.2.2.2.1⟩
theorem zcat_map {sk : List Value} (h : (sk.map fun v => v.category).sum ≤ 8) : 2 * (F0 m pc lr (sk.map (ztr bs b))).monitorRoom + ((sk.map (ztr bs b)).map fun v => v.category).sum ≤ 8 := by
  show 2 * 0 + _ ≤ 8
  rw [List.map_map]
  have : ((fun v : Value => v.category) ∘ ztr bs b) = fun v => v.category := by funext v; exact ztr_cat
  rw [this]
  omega
/-- what a call of K9 needs of the caller's room -/
def zFit (K K9 : zK) (u us : Nat) : Prop := zKf K9 + 1 ≤ zKf K ∧ 8 + (zKl K9 + 11) + zKo K9 ≤ zKo K ∧ u + zKm K9 ≤ zKm K ∧ us + zKs K9 ≤ zKs K
theorem zCallB {n idx : Nat} (hC : zC E K p l R s m args meth c D ca bs b n0) (hok : zOk K9 n) (hh : zKh K9 = []) (hf : zFit K K9 u us) (hl : Cond.methodLink (zKy K).cls idx (zKy K9) ∈ zG) : CallB R s args (zKy K).cls idx (zKy K9) (zKc K9) (zKl K9) (zKr K9) (zws K9) (zrm K9) (zKm K9) (zKs K9) n := by
  have hts := hC.2.2.2.2.1
  have hRm : R = zrm K := hC.2.2.2.2.2.2.1
  have hc := zcw_plain hh
  refine ⟨rfl, rfl, by rw [hRm]; exact hf.1, by rw [hRm]; exact hf.2.1, zG_pay hts (zws_good hok), by rw [zws, hc]; exact List.mem_cons_self, by rw [← hc]; exact hts _ hok.1, hts _ hok.2.1, ⟨hok.2.2.1, hok.2.2.2.1⟩, zn_len hok.2.2.2.2.1, hts _ hl⟩
theorem zCallN {n idx : Nat} {host : String} (hC : zC E K p l R s m args meth c D ca bs b n0) (hok : zOk K9 n) (hh : zKh K9 = []) (hf : zFit K K9 u us) (hl : ((zKy K).cls, idx, zKy K9, host) ∈ zNests) : va_CN R s args (zKy K).cls idx (zKy K9) host (zKc K9) (zKl K9) (zKr K9) (zws K9) (zrm K9) (zKm K9) (zKs K9) n := by
  have hts := hC.2.2.2.2.1
  have hRm : R = zrm K := hC.2.2.2.2.2.2.1
  have hc := zcw_plain hh
  have hEv := hC.2.2.2.2.2.2.2.2.2.2.1
  exact ⟨⟨rfl, rfl, by rw [hRm]; exact hf.1, by rw [hRm]; exact hf.2.1, zG_pay hts (zws_good hok), by rw [zws, hc]; exact List.mem_cons_self⟩, by rw [← hc]; exact hts _ hok.1, hts _ hok.2.1, ⟨hok.2.2.1, hok.2.2.2.1⟩, zn_len hok.2.2.2.2.1, va_Nw.use rfl (hEv.2.2.2.2.2.2.2.2.2.1 _ hl)⟩
theorem zCallX {n idx : Nat} {x : Nat × Nat × Nat × Nat} {t : List (Nat × Nat × Nat × Nat)} (hC : zC E K p l R s m args meth c D ca bs b n0) (hok : zOk K9 n) (hh : zKh K9 = x :: t) (hf : zFit K K9 u us) (hl : zLS (zKy K).cls idx (zKy K9)) : vx_CSW R s args (zKy K).cls idx (zKy K9) (zKc K9) (zKl K9) (zKr K9) (zKh K9) (zws K9) (zrm K9) (zKm K9) (zKs K9) n := by
  have hts := hC.2.2.2.2.1
  have hRm : R = zrm K := hC.2.2.2.2.2.2.1
  have hc := zcw_with hh
  exact ⟨⟨rfl, rfl, by rw [hRm]; exact hf.1, by rw [hRm]; exact hf.2.1, zG_pay hts (zws_good hok), by rw [zws, hc]; exact List.mem_cons_self⟩, by rw [← hc]; exact hts _ hok.1, hts _ hok.2.1, ⟨hok.2.2.1, hok.2.2.2.1⟩, zn_len hok.2.2.2.2.1, hts _ hl.1, hts _ hl.2⟩
end ZC2
theorem z_callV {k ci : Nat} {as : List Value} {v : Option Value} {n idx : Nat} {st : List Value} (h9 : zCt E K9 (.ref k :: as) M (.inl v, M')) (hok : zOk K9 n) (hl : zLV (zKy K).cls idx (zKy K9)) (hh : zKh K9 = []) (hk : zAt M k (0, ci)) (hci : (vwCl[ci]?).map (fun q => q.1) = some (zKy K9).cls) (hn : as.length = n) (hf : zFit K K9 u us) (hsk : (sk.map fun v => v.category).sum ≤ 8) (hst : st = as.reverse ++ .ref k :: sk) (d : decode (zKc K) pc = .ok (.invokevirtual idx, 3))
    (kk : zV F E K n0 o (pc + 3) ls (v.toList ++ sk) M' (u + zKm K9) (us + zKs K9)) : zV F E K n0 o pc ls st M u us := by
  intro p l e R s m args below meth c D ca bs b H locs lr hC hR hS hA hn0 hL
  have hRm : R = zrm K := hC.2.2.2.2.2.2.1
  have hts := hC.2.2.2.2.1
  have hM := h9.2 l D ca bs b H.size hC.2.2.2.2.2.2.2.2.2.2.2.1
  have hp := zPre_of (M := M) hC hR hS hA
  obtain ⟨q9, hq9⟩ : ∃ q9, vwCl[ci]? = some q9 := by
    cases h : vwCl[ci]? with
    | none => rw [h] at hci; cases hci
    | some q9 => exact ⟨q9, rfl⟩
  have hq1 : q9.1 = (zKy K9).cls := by rw [hq9] at hci; exact Option.some.inj hci
  have hrecv := va_recv hC.2.2.2.2.2.2.2.2.2.1 hR.1 hq9 (zw_e hk (zE_obj hk.1))
  rw [hq1] at hrecv
  have hz := zad_eq (bs := bs) (b := b) hk.2.1
  have hstR : st.map (ztr bs b) = (as.map (ztr bs b)).reverse ++ .ref (bs + k) :: sk.map (ztr bs b) := by rw [hst, List.map_append, List.map_reverse, List.map_cons, ← hz]; rfl
  have hpc : ((Value.ref k :: as).map (ztr bs b)) = .ref (bs + k) :: as.map (ztr bs b) := by rw [List.map_cons, ← hz]; rfl
  rw [hpc] at hM
  exact zV_back (sk := sk) (vx_runV (zFix hC) hM ⟨zCallB hC hok hh hf hl.1, hts _ hl.2.1, hts _ hl.2.2⟩ ⟨zPre_blind, hrecv, fun U h1 h2 => ⟨rfl, hp U h1 h2⟩⟩ rfl (by rw [List.length_map]; exact hn) hL.1 hstR (zcat_map (m := m) (pc := pc) (lr := lr) hsk) d ⟨by rw [hRm]; exact hf.2.2.1, by rw [hRm]; exact hf.2.2.2⟩) kk hC hR hS hA hn0 hL h9.1
theorem z_callVx {k ci : Nat} {as : List Value} {Ex : String} {n idx : Nat} {st : List Value} (h9 : zCt E K9 (.ref k :: as) M (.inr Ex, M')) (hok : zOk K9 n) (hl : zLV (zKy K).cls idx (zKy K9)) (hh : zKh K9 = []) (hk : zAt M k (0, ci)) (hci : (vwCl[ci]?).map (fun q => q.1) = some (zKy K9).cls) (hn : as.length = n) (hf : zFit K K9 u us) (hsk : (sk.map fun v => v.category).sum ≤ 8) (hst : st = as.reverse ++ .ref k :: sk) (d : decode (zKc K) pc = .ok (.invokevirtual idx, 3))
    (kk : zX F E K n0 o pc ls M' (u + zKm K9) (us + zKs K9) Ex) : zV F E K n0 o pc ls st M u us := by
  intro p l e R s m args below meth c D ca bs b H locs lr hC hR hS hA hn0 hL
  have hRm : R = zrm K := hC.2.2.2.2.2.2.1
  have hts := hC.2.2.2.2.1
  have hM := h9.2 l D ca bs b H.size hC.2.2.2.2.2.2.2.2.2.2.2.1
  have hp := zPre_of (M := M) hC hR hS hA
  obtain ⟨q9, hq9⟩ : ∃ q9, vwCl[ci]? = some q9 := by
    cases h : vwCl[ci]? with
    | none => rw [h] at hci; cases hci
    | some q9 => exact ⟨q9, rfl⟩
  have hq1 : q9.1 = (zKy K9).cls := by rw [hq9] at hci; exact Option.some.inj hci
  have hrecv := va_recv hC.2.2.2.2.2.2.2.2.2.1 hR.1 hq9 (zw_e hk (zE_obj hk.1))
  rw [hq1] at hrecv
  have hz := zad_eq (bs := bs) (b := b) hk.2.1
  have hstR : st.map (ztr bs b) = (as.map (ztr bs b)).reverse ++ .ref (bs + k) :: sk.map (ztr bs b) := by rw [hst, List.map_append, List.map_reverse, List.map_cons, ← hz]; rfl
  have hpc : ((Value.ref k :: as).map (ztr bs b)) = .ref (bs + k) :: as.map (ztr bs b) := by rw [List.map_cons, ← hz]; rfl
  rw [hpc] at hM
  exact zV_thrown (sk := sk) (vx_runV (zFix hC) hM ⟨zCallB hC hok hh hf hl.1, hts _ hl.2.1, hts _ hl.2.2⟩ ⟨zPre_blind, hrecv, fun U h1 h2 => ⟨rfl, hp U h1 h2⟩⟩ rfl (by rw [List.length_map]; exact hn) hL.1 hstR (zcat_map (m := m) (pc := pc) (lr := lr) hsk) d ⟨by rw [hRm]; exact hf.2.2.1, by rw [hRm]; exact hf.2.2.2⟩) kk hC hR hS hA hn0 hL h9.1
theorem z_callS {as : List Value} {v : Option Value} {n idx : Nat} {st : List Value} (h9 : zCt E K9 as M (.inl v, M')) (hok : zOk K9 n) (hl : zLS (zKy K).cls idx (zKy K9)) (hh : zKh K9 = []) (hn : as.length = n) (hf : zFit K K9 u us) (hsk : (sk.map fun v => v.category).sum ≤ 8) (hst : st = as.reverse ++ sk) (d : decode (zKc K) pc = .ok (.invokestatic idx, 3))
    (kk : zV F E K n0 o (pc + 3) ls (v.toList ++ sk) M' (u + zKm K9) (us + zKs K9)) : zV F E K n0 o pc ls st M u us := by
  intro p l e R s m args below meth c D ca bs b H locs lr hC hR hS hA hn0 hL
  have hRm : R = zrm K := hC.2.2.2.2.2.2.1
  have hts := hC.2.2.2.2.1
  have hM := h9.2 l D ca bs b H.size hC.2.2.2.2.2.2.2.2.2.2.2.1
  have hp := zPre_of (M := M) hC hR hS hA
  have hstR : st.map (ztr bs b) = (as.map (ztr bs b)).reverse ++ sk.map (ztr bs b) := by rw [hst, List.map_append, List.map_reverse]
  exact zV_back (sk := sk) (vx_runS (zFix hC) hM ⟨zCallB hC hok hh hf hl.1, hts _ hl.2⟩ ⟨zPre_blind, fun U h1 h2 => ⟨rfl, hp U h1 h2⟩⟩ rfl (by rw [List.length_map]; exact hn) hL.1 hstR (zcat_map (m := m) (pc := pc) (lr := lr) hsk) d ⟨by rw [hRm]; exact hf.2.2.1, by rw [hRm]; exact hf.2.2.2⟩) kk hC hR hS hA hn0 hL h9.1
theorem z_callSx {as : List Value} {Ex : String} {n idx : Nat} {st : List Value} (h9 : zCt E K9 as M (.inr Ex, M')) (hok : zOk K9 n) (hl : zLS (zKy K).cls idx (zKy K9)) (hh : zKh K9 = []) (hn : as.length = n) (hf : zFit K K9 u us) (hsk : (sk.map fun v => v.category).sum ≤ 8) (hst : st = as.reverse ++ sk) (d : decode (zKc K) pc = .ok (.invokestatic idx, 3))
    (kk : zX F E K n0 o pc ls M' (u + zKm K9) (us + zKs K9) Ex) : zV F E K n0 o pc ls st M u us := by
  intro p l e R s m args below meth c D ca bs b H locs lr hC hR hS hA hn0 hL
  have hRm : R = zrm K := hC.2.2.2.2.2.2.1
  have hts := hC.2.2.2.2.1
  have hM := h9.2 l D ca bs b H.size hC.2.2.2.2.2.2.2.2.2.2.2.1
  have hp := zPre_of (M := M) hC hR hS hA
  have hstR : st.map (ztr bs b) = (as.map (ztr bs b)).reverse ++ sk.map (ztr bs b) := by rw [hst, List.map_append, List.map_reverse]
  exact zV_thrown (sk := sk) (vx_runS (zFix hC) hM ⟨zCallB hC hok hh hf hl.1, hts _ hl.2⟩ ⟨zPre_blind, fun U h1 h2 => ⟨rfl, hp U h1 h2⟩⟩ rfl (by rw [List.length_map]; exact hn) hL.1 hstR (zcat_map (m := m) (pc := pc) (lr := lr) hsk) d ⟨by rw [hRm]; exact hf.2.2.1, by rw [hRm]; exact hf.2.2.2⟩) kk hC hR hS hA hn0 hL h9.1
theorem z_callSN {as : List Value} {v : Option Value} {n idx : Nat} {st : List Value} (h9 : zCt E K9 as M (.inl v, M')) (hok : zOk K9 n) (hl : zLSN (zKy K).cls idx (zKy K9)) (hh : zKh K9 = []) (hn : as.length = n) (hf : zFit K K9 u us) (hsk : (sk.map fun v => v.category).sum ≤ 8) (hst : st = as.reverse ++ sk) (d : decode (zKc K) pc = .ok (.invokestatic idx, 3))
    (kk : zV F E K n0 o (pc + 3) ls (v.toList ++ sk) M' (u + zKm K9) (us + zKs K9)) : zV F E K n0 o pc ls st M u us := by
  intro p l e R s m args below meth c D ca bs b H locs lr hC hR hS hA hn0 hL
  have hRm : R = zrm K := hC.2.2.2.2.2.2.1
  have hts := hC.2.2.2.2.1
  have hM := h9.2 l D ca bs b H.size hC.2.2.2.2.2.2.2.2.2.2.2.1
  have hp := zPre_of (M := M) hC hR hS hA
  have hstR : st.map (ztr bs b) = (as.map (ztr bs b)).reverse ++ sk.map (ztr bs b) := by rw [hst, List.map_append, List.map_reverse]
  obtain ⟨host, hhost⟩ := hl.1
  exact zV_back (sk := sk) (vx_runSN (host := host) (zFix hC) hM ⟨zCallN hC hok hh hf hhost, hts _ hl.2, trivial⟩ ⟨zPre_blind, fun U h1 h2 => ⟨rfl, hp U h1 h2⟩⟩ rfl (by rw [List.length_map]; exact hn) hL.1 hstR (zcat_map (m := m) (pc := pc) (lr := lr) hsk) d ⟨by rw [hRm]; exact hf.2.2.1, by rw [hRm]; exact hf.2.2.2⟩) kk hC hR hS hA hn0 hL h9.1
theorem z_callSNx {as : List Value} {Ex : String} {n idx : Nat} {st : List Value} (h9 : zCt E K9 as M (.inr Ex, M')) (hok : zOk K9 n) (hl : zLSN (zKy K).cls idx (zKy K9)) (hh : zKh K9 = []) (hn : as.length = n) (hf : zFit K K9 u us) (hsk : (sk.map fun v => v.category).sum ≤ 8) (hst : st = as.reverse ++ sk) (d : decode (zKc K) pc = .ok (.invokestatic idx, 3))
    (kk : zX F E K n0 o pc ls M' (u + zKm K9) (us + zKs K9) Ex) : zV F E K n0 o pc ls st M u us := by
  intro p l e R s m args below meth c D ca bs b H locs lr hC hR hS hA hn0 hL
  have hRm : R = zrm K := hC.2.2.2.2.2.2.1
  have hts := hC.2.2.2.2.1
  have hM := h9.2 l D ca bs b H.size hC.2.2.2.2.2.2.2.2.2.2.2.1
  have hp := zPre_of (M := M) hC hR hS hA
  have hstR : st.map (ztr bs b) = (as.map (ztr bs b)).reverse ++ sk.map (ztr bs b) := by rw [hst, List.map_append, List.map_reverse]
  obtain ⟨host, hhost⟩ := hl.1
  exact zV_thrown (sk := sk) (vx_runSN (host := host) (zFix hC) hM ⟨zCallN hC hok hh hf hhost, hts _ hl.2, trivial⟩ ⟨zPre_blind, fun U h1 h2 => ⟨rfl, hp U h1 h2⟩⟩ rfl (by rw [List.length_map]; exact hn) hL.1 hstR (zcat_map (m := m) (pc := pc) (lr := lr) hsk) d ⟨by rw [hRm]; exact hf.2.2.1, by rw [hRm]; exact hf.2.2.2⟩) kk hC hR hS hA hn0 hL h9.1
theorem z_callI {k : Nat} {as : List Value} {v : Option Value} {n idx : Nat} {st : List Value} (h9 : zCt E K9 (.ref k :: as) M (.inl v, M')) (hok : zOk K9 n) (hl : zLI (zKy K).cls idx (zKy K9)) (hh : zKh K9 = []) (hr9 : zKr K9 = none) (hk0 : 0 < k) (hn : as.length = n) (hf : zFit K K9 u us) (hsk : (sk.map fun v => v.category).sum ≤ 8) (hst : st = as.reverse ++ .ref k :: sk) (d : decode (zKc K) pc = .ok (.invokespecial idx, 3))
    (kk : zV F E K n0 o (pc + 3) ls (v.toList ++ sk) M' (u + zKm K9) (us + zKs K9)) : zV F E K n0 o pc ls st M u us := by
  intro p l e R s m args below meth c D ca bs b H locs lr hC hR hS hA hn0 hL
  have hRm : R = zrm K := hC.2.2.2.2.2.2.1
  have hts := hC.2.2.2.2.1
  have hM := h9.2 l D ca bs b H.size hC.2.2.2.2.2.2.2.2.2.2.2.1
  have hp := zPre_of (M := M) hC hR hS hA
  have hz := zad_eq (bs := bs) (b := b) hk0
  have hstR : st.map (ztr bs b) = (as.map (ztr bs b)).reverse ++ .ref (bs + k) :: sk.map (ztr bs b) := by rw [hst, List.map_append, List.map_reverse, List.map_cons, ← hz]; rfl
  have hpc : ((Value.ref k :: as).map (ztr bs b)) = .ref (bs + k) :: as.map (ztr bs b) := by rw [List.map_cons, ← hz]; rfl
  rw [hpc] at hM
  exact zV_back (sk := sk) (vx_runI (zFix hC) hM ⟨by have h := zCallB hC hok hh hf hl.1; rw [hr9] at h; exact h, hl.2.2, hts _ hl.2.1⟩ ⟨zPre_blind, fun U h1 h2 => ⟨rfl, hp U h1 h2⟩⟩ rfl (by rw [List.length_map]; exact hn) hL.1 hstR (zcat_map (m := m) (pc := pc) (lr := lr) hsk) d ⟨by rw [hRm]; exact hf.2.2.1, by rw [hRm]; exact hf.2.2.2⟩) kk hC hR hS hA hn0 hL h9.1
theorem z_callIx {k : Nat} {as : List Value} {Ex : String} {n idx : Nat} {st : List Value} (h9 : zCt E K9 (.ref k :: as) M (.inr Ex, M')) (hok : zOk K9 n) (hl : zLI (zKy K).cls idx (zKy K9)) (hh : zKh K9 = []) (hr9 : zKr K9 = none) (hk0 : 0 < k) (hn : as.length = n) (hf : zFit K K9 u us) (hsk : (sk.map fun v => v.category).sum ≤ 8) (hst : st = as.reverse ++ .ref k :: sk) (d : decode (zKc K) pc = .ok (.invokespecial idx, 3))
    (kk : zX F E K n0 o pc ls M' (u + zKm K9) (us + zKs K9) Ex) : zV F E K n0 o pc ls st M u us := by
  intro p l e R s m args below meth c D ca bs b H locs lr hC hR hS hA hn0 hL
  have hRm : R = zrm K := hC.2.2.2.2.2.2.1
  have hts := hC.2.2.2.2.1
  have hM := h9.2 l D ca bs b H.size hC.2.2.2.2.2.2.2.2.2.2.2.1
  have hp := zPre_of (M := M) hC hR hS hA
  have hz := zad_eq (bs := bs) (b := b) hk0
  have hstR : st.map (ztr bs b) = (as.map (ztr bs b)).reverse ++ .ref (bs + k) :: sk.map (ztr bs b) := by rw [hst, List.map_append, List.map_reverse, List.map_cons, ← hz]; rfl
  have hpc : ((Value.ref k :: as).map (ztr bs b)) = .ref (bs + k) :: as.map (ztr bs b) := by rw [List.map_cons, ← hz]; rfl
  rw [hpc] at hM
  exact zV_thrown (sk := sk) (vx_runI (zFix hC) hM ⟨by have h := zCallB hC hok hh hf hl.1; rw [hr9] at h; exact h, hl.2.2, hts _ hl.2.1⟩ ⟨zPre_blind, fun U h1 h2 => ⟨rfl, hp U h1 h2⟩⟩ rfl (by rw [List.length_map]; exact hn) hL.1 hstR (zcat_map (m := m) (pc := pc) (lr := lr) hsk) d ⟨by rw [hRm]; exact hf.2.2.1, by rw [hRm]; exact hf.2.2.2⟩) kk hC hR hS hA hn0 hL h9.1
theorem z_callIN {k : Nat} {as : List Value} {v : Option Value} {n idx : Nat} {st : List Value} (h9 : zCt E K9 (.ref k :: as) M (.inl v, M')) (hok : zOk K9 n) (hl : zLIN (zKy K).cls idx (zKy K9)) (hh : zKh K9 = []) (hr9 : zKr K9 = none) (hk0 : 0 < k) (hn : as.length = n) (hf : zFit K K9 u us) (hsk : (sk.map fun v => v.category).sum ≤ 8) (hst : st = as.reverse ++ .ref k :: sk) (d : decode (zKc K) pc = .ok (.invokespecial idx, 3))
    (kk : zV F E K n0 o (pc + 3) ls (v.toList ++ sk) M' (u + zKm K9) (us + zKs K9)) : zV F E K n0 o pc ls st M u us := by
  intro p l e R s m args below meth c D ca bs b H locs lr hC hR hS hA hn0 hL
  have hRm : R = zrm K := hC.2.2.2.2.2.2.1
  have hts := hC.2.2.2.2.1
  have hM := h9.2 l D ca bs b H.size hC.2.2.2.2.2.2.2.2.2.2.2.1
  have hp := zPre_of (M := M) hC hR hS hA
  have hz := zad_eq (bs := bs) (b := b) hk0
  have hstR : st.map (ztr bs b) = (as.map (ztr bs b)).reverse ++ .ref (bs + k) :: sk.map (ztr bs b) := by rw [hst, List.map_append, List.map_reverse, List.map_cons, ← hz]; rfl
  have hpc : ((Value.ref k :: as).map (ztr bs b)) = .ref (bs + k) :: as.map (ztr bs b) := by rw [List.map_cons, ← hz]; rfl
  rw [hpc] at hM
  obtain ⟨host, hhost⟩ := hl.1
  exact zV_back (sk := sk) (vx_runIN (host := host) (zFix hC) hM ⟨by have h := zCallN hC hok hh hf hhost; rw [hr9] at h; exact h, hl.2.2, hts _ hl.2.1⟩ ⟨zPre_blind, fun U h1 h2 => ⟨rfl, hp U h1 h2⟩⟩ rfl (by rw [List.length_map]; exact hn) hL.1 hstR (zcat_map (m := m) (pc := pc) (lr := lr) hsk) d ⟨by rw [hRm]; exact hf.2.2.1, by rw [hRm]; exact hf.2.2.2⟩) kk hC hR hS hA hn0 hL h9.1
theorem z_callINx {k : Nat} {as : List Value} {Ex : String} {n idx : Nat} {st : List Value} (h9 : zCt E K9 (.ref k :: as) M (.inr Ex, M')) (hok : zOk K9 n) (hl : zLIN (zKy K).cls idx (zKy K9)) (hh : zKh K9 = []) (hr9 : zKr K9 = none) (hk0 : 0 < k) (hn : as.length = n) (hf : zFit K K9 u us) (hsk : (sk.map fun v => v.category).sum ≤ 8) (hst : st = as.reverse ++ .ref k :: sk) (d : decode (zKc K) pc = .ok (.invokespecial idx, 3))
    (kk : zX F E K n0 o pc ls M' (u + zKm K9) (us + zKs K9) Ex) : zV F E K n0 o pc ls st M u us := by
  intro p l e R s m args below meth c D ca bs b H locs lr hC hR hS hA hn0 hL
  have hRm : R = zrm K := hC.2.2.2.2.2.2.1
  have hts := hC.2.2.2.2.1
  have hM := h9.2 l D ca bs b H.size hC.2.2.2.2.2.2.2.2.2.2.2.1
  have hp := zPre_of (M := M) hC hR hS hA
  have hz := zad_eq (bs := bs) (b := b) hk0
  have hstR : st.map (ztr bs b) = (as.map (ztr bs b)).reverse ++ .ref (bs + k) :: sk.map (ztr bs b) := by rw [hst, List.map_append, List.map_reverse, List.map_cons, ← hz]; rfl
  have hpc : ((Value.ref k :: as).map (ztr bs b)) = .ref (bs + k) :: as.map (ztr bs b) := by rw [List.map_cons, ← hz]; rfl
  rw [hpc] at hM
  obtain ⟨host, hhost⟩ := hl.1
  exact zV_thrown (sk := sk) (vx_runIN (host := host) (zFix hC) hM ⟨by have h := zCallN hC hok hh hf hhost; rw [hr9] at h; exact h, hl.2.2, hts _ hl.2.1⟩ ⟨zPre_blind, fun U h1 h2 => ⟨rfl, hp U h1 h2⟩⟩ rfl (by rw [List.length_map]; exact hn) hL.1 hstR (zcat_map (m := m) (pc := pc) (lr := lr) hsk) d ⟨by rw [hRm]; exact hf.2.2.1, by rw [hRm]; exact hf.2.2.2⟩) kk hC hR hS hA hn0 hL h9.1
theorem z_callSX {as : List Value} {v : Option Value} {n idx : Nat} {st : List Value} (h9 : zCt E K9 as M (.inl v, M')) (hok : zOk K9 n) (hl : zLS (zKy K).cls idx (zKy K9)) {x9 : Nat × Nat × Nat × Nat} {t9 : List (Nat × Nat × Nat × Nat)} (hh : zKh K9 = x9 :: t9) (hn : as.length = n) (hf : zFit K K9 u us) (hsk : (sk.map fun v => v.category).sum ≤ 8) (hst : st = as.reverse ++ sk) (d : decode (zKc K) pc = .ok (.invokestatic idx, 3))
    (kk : zV F E K n0 o (pc + 3) ls (v.toList ++ sk) M' (u + zKm K9) (us + zKs K9)) : zV F E K n0 o pc ls st M u us := by
  intro p l e R s m args below meth c D ca bs b H locs lr hC hR hS hA hn0 hL
  have hRm : R = zrm K := hC.2.2.2.2.2.2.1
  have hts := hC.2.2.2.2.1
  have hM := h9.2 l D ca bs b H.size hC.2.2.2.2.2.2.2.2.2.2.2.1
  have hp := zPre_of (M := M) hC hR hS hA
  have hstR : st.map (ztr bs b) = (as.map (ztr bs b)).reverse ++ sk.map (ztr bs b) := by rw [hst, List.map_append, List.map_reverse]
  exact zV_back (sk := sk) (vx_runSX (zFix hC) hM (zCallX hC hok hh hf hl) ⟨zPre_blind, fun U h1 h2 => ⟨rfl, hp U h1 h2⟩⟩ rfl (by rw [List.length_map]; exact hn) hL.1 hstR (zcat_map (m := m) (pc := pc) (lr := lr) hsk) d ⟨by rw [hRm]; exact hf.2.2.1, by rw [hRm]; exact hf.2.2.2⟩) kk hC hR hS hA hn0 hL h9.1
theorem z_callSXx {as : List Value} {Ex : String} {n idx : Nat} {st : List Value} (h9 : zCt E K9 as M (.inr Ex, M')) (hok : zOk K9 n) (hl : zLS (zKy K).cls idx (zKy K9)) {x9 : Nat × Nat × Nat × Nat} {t9 : List (Nat × Nat × Nat × Nat)} (hh : zKh K9 = x9 :: t9) (hn : as.length = n) (hf : zFit K K9 u us) (hsk : (sk.map fun v => v.category).sum ≤ 8) (hst : st = as.reverse ++ sk) (d : decode (zKc K) pc = .ok (.invokestatic idx, 3))
    (kk : zX F E K n0 o pc ls M' (u + zKm K9) (us + zKs K9) Ex) : zV F E K n0 o pc ls st M u us := by
  intro p l e R s m args below meth c D ca bs b H locs lr hC hR hS hA hn0 hL
  have hRm : R = zrm K := hC.2.2.2.2.2.2.1
  have hts := hC.2.2.2.2.1
  have hM := h9.2 l D ca bs b H.size hC.2.2.2.2.2.2.2.2.2.2.2.1
  have hp := zPre_of (M := M) hC hR hS hA
  have hstR : st.map (ztr bs b) = (as.map (ztr bs b)).reverse ++ sk.map (ztr bs b) := by rw [hst, List.map_append, List.map_reverse]
  exact zV_thrown (sk := sk) (vx_runSX (zFix hC) hM (zCallX hC hok hh hf hl) ⟨zPre_blind, fun U h1 h2 => ⟨rfl, hp U h1 h2⟩⟩ rfl (by rw [List.length_map]; exact hn) hL.1 hstR (zcat_map (m := m) (pc := pc) (lr := lr) hsk) d ⟨by rw [hRm]; exact hf.2.2.1, by rw [hRm]; exact hf.2.2.2⟩) kk hC hR hS hA hn0 hL h9.1
end ZC
end
section
/-! ends of methods, throws, catches, contracts out of walks -/
def zNm : List String := ["java/lang/RuntimeException", "java/lang/Exception"]
def zTh (own : String) (ik ic : Nat) (cls : String) : Prop := Bundle.fit cls = true ∧ Cond.classLink own ik cls ∈ zG ∧ Cond.initialized cls ∈ zG ∧ (∀ w ∈ (vx_atS own ic cls zNm).filter goodWord, w ∈ zG) ∧ (∀ w ∈ (vx_atS own ic cls zNm).filter (fun w => !goodWord w), w ∈ Cond.castable cls cls :: zDec.map Cond.declares) ∧ cls ∈ zXs ∧ (∀ w ∈ Cond.classLink own ik cls :: Cond.initialized cls :: vx_atS own ic cls zNm, vx_ot w = true) ∧ (∀ n ∈ zNm, Bundle.fit n = true)
theorem zL_setN {bs b i : Nat} {ls : List Value} {lr lr' : Array Slot} {nL : Nat} {x : Value} (h : zL bs b ls lr nL) 
    (h' : lv_has lr' nL ((i, x) :: (zlv bs b ls).filter (fun q => !(q.1 == i) && !(q.1 + 1 == i && q.2.category == 2)))) : zL bs b (ls.set i .null) lr' nL := by
  have h9 : zL bs b (ls.set i .null) lr' nL := by
    obtain ⟨h1, h2, h3, h4, h5⟩ := h
    obtain ⟨g1, g2, g3⟩ := h'
    refine ⟨g1, g2, by rw [List.length_set]; exact h3, fun v hv => ?_, fun j v hj hv => ?_⟩
    · rcases List.mem_or_eq_of_mem_set hv with h | rfl
      · exact h4 v h
      · rfl
    · by_cases hij : i = j
      · subst hij
        have hl : i < (ls.set i .null).length := (List.getElem?_eq_some_iff.mp hj).1
        rw [List.length_set] at hl
        rw [List.getElem?_set_self hl] at hj
        cases hj
        exact absurd rfl hv
      · rw [List.getElem?_set_ne hij] at hj
        refine g3 (j, ztr bs b v) (List.mem_cons_of_mem _ (List.mem_filter.mpr ⟨?_, ?_⟩))
        · have hl : j < ls.length := (List.getElem?_eq_some_iff.mp hj).1
          have he : ls.getD j .null = v := by rw [List.getD_eq_getElem?_getD, hj]; rfl
          simp only [zlv, List.mem_filterMap, List.mem_range]
          exact ⟨j, hl, by rw [he, if_neg hv]⟩
        · have hc : (ztr bs b v).category = 1 := by rw [ztr_cat]; exact h4 v (List.mem_of_getElem? hj)
          simp only [hc]
          simp
          omega
  exact h9
section ZN
variable {F : Bool} {E : Nat × (Nat → Int32)} {K K9 : zK} {n0 : Nat} {o : zO} {pc : Nat} {ls sk : List Value} {M M' : zM} {u us : Nat}
theorem z_iret {v : Int32} {ty : FieldType} (ho : o = (.inl (some (.int v)), M)) (hr : zKr K = some ty) (hn : narrow ty (.int v) = .int v) (hu : u ≤ zKm K) (hus : us ≤ zKs K) (d : decode (zKc K) pc = .ok (.ireturn, 1)) : zV false E K n0 o pc ls [.int v] M u us := by
  intro p l e R s m args below meth c D ca bs b H locs lr hC hR hS hA hn0 hL
  have hlocks : meth.locks = false := hC.2.2.2.2.2.1
  refine W.widen (k := zKm K) (n := zKs K) hu hus ?_
  exact vx_ret (W.zret hC.1 hC.2.1 (hC.2.2.2.2.2.2.2.1.trans hr) hn (fun t ht hW => ⟨some (.int v), by rw [ho], rfl, by rw [ho, ht]; exact hR, hS.F ht⟩) hS.2.2 d)
theorem z_vret (ho : o = (.inl none, M)) (hr : zKr K = none) (hu : u ≤ zKm K) (hus : us ≤ zKs K) (d : decode (zKc K) pc = .ok (.return_, 1)) : zV false E K n0 o pc ls [] M u us := by
  intro p l e R s m args below meth c D ca bs b H locs lr hC hR hS hA hn0 hL
  have hlocks : meth.locks = false := hC.2.2.2.2.2.1
  refine W.widen (k := zKm K) (n := zKs K) hu hus ?_
  exact vx_ret (W.vret hC.1 hC.2.1 (hC.2.2.2.2.2.2.2.1.trans hr) (fun t ht hW => ⟨none, by rw [ho], rfl, by rw [ho, ht]; exact hR, hS.F ht⟩) hS.2.2 d)
theorem z_aret {k : Nat} {nm : String} (ho : o = (.inl (some (.ref k)), M)) (hr : zKr K = some (.object nm)) (hu : u ≤ zKm K) (hus : us ≤ zKs K) (d : decode (zKc K) pc = .ok (.areturn, 1)) : zV false E K n0 o pc ls [.ref k] M u us := by
  intro p l e R s m args below meth c D ca bs b H locs lr hC hR hS hA hn0 hL
  have hlocks : meth.locks = false := hC.2.2.2.2.2.1
  refine W.widen (k := zKm K) (n := zKs K) hu hus ?_
  exact vx_ret (W.aret hC.1 hC.2.1 (hC.2.2.2.2.2.2.2.1.trans hr) (Or.inl ⟨_, rfl⟩) (Or.inr ⟨_, rfl⟩) (fun t ht hW => ⟨some (.ref k), by rw [ho], rfl, by rw [ho, ht]; exact hR, hS.F ht⟩) hS.2.2 d)
/-- whether the heap ends with the cells is forgotten -/
theorem z_loose (kk : zV F E K n0 o pc ls sk (zFz M) u us) : zV F E K n0 o pc ls sk M u us := by
  intro p l e R s m args below meth c D ca bs b H locs lr hC hR hS hA hn0 hL
  refine kk p l e R s m args below meth c D ca bs b H locs lr hC ⟨?_, fun h => (by cases h), hR.2.2⟩ hS hA hn0 hL
  have : zw ca bs (zFz M) = zw ca bs M := rfl
  rw [this]
  exact hR.1
theorem z_throw {ik ic is : Nat} {cls text : String} (ho : o = (.inr cls, zFz M)) (hT : zTh (zKy K).cls ik ic cls) (hstr : ((zKy K).cls, is, text) ∈ zstrs) (hh : zKh K = []) (hf : 5 < zKf K) (hlo : (sk.map fun v => v.category).sum + 82 ≤ zKo K) (hu : u + 1 ≤ zKm K) (hus : us + 6 ≤ zKs K)
    (d0 : decode (zKc K) pc = .ok (.new ik, 3)) (d3 : decode (zKc K) (pc + 3) = .ok (.dup, 1)) (d4 : decode (zKc K) (pc + 4) = .ok (.ldc is, 2)) (d6 : decode (zKc K) (pc + 6) = .ok (.invokespecial ic, 3)) (d9 : decode (zKc K) (pc + 9) = .ok (.athrow, 1)) : zV false E K n0 o pc ls sk M u us := by
  intro p l e R s m args below meth c D ca bs b H locs lr hC hR hS hA hn0 hL
  have hts := hC.2.2.2.2.1
  have hRm : R = zrm K := hC.2.2.2.2.2.2.1
  have hEv := hC.2.2.2.2.2.2.2.2.2.2.1
  obtain ⟨t1, t2, t3, t4, t5, t6, t7, t8⟩ := hT
  obtain ⟨sa, hsa⟩ := hEv.2.2.1 _ hstr
  refine vx_throwS (names := zNm) (mc := zKm K) (ms := zKs K) hC.1 hC.2.1 hC.2.2.2.2.2.2.2.2.2.2.2.1 hC.2.2.2.1 t1 t8 (hts _ t2) (hts _ t3) hsa (vx_hat (fun w hw => hts _ (t4 w hw)) t5 (fun w hw => ?_)) t7 hEv.1 hEv.2.1 hS (by rw [hC.2.2.1]; exact hL.1) d0 d3 d4 d6 d9 ?_ (by rw [hRm]; exact hf) ?_ (by rw [hRm]; exact hu) (by rw [hRm]; exact hus) hC.2.2.2.2.2.1 (fun t hA9 hz hq => ?_) hS.2.2 hu hus
  · rcases List.mem_cons.mp hw with rfl | hw
    · exact va_Nw.use rfl (hEv.2.2.2.2.2.2.2.2.1 _ t6)
    · obtain ⟨y, hy, rfl⟩ := List.mem_map.mp hw
      exact va_Nw.use rfl (hEv.2.2.2.2.2.2.2.2.2.2 y hy)
  · rw [hC.2.2.2.2.2.2.2.2.1, hh]
    intro x hx
    cases hx
  · rw [hRm, List.map_map]
    have : ((fun v : Value => v.category) ∘ ztr bs b) = fun v => v.category := by funext v; exact ztr_cat
    rw [this]
    exact hlo
  · refine ⟨by rw [ho], ?_, ?_⟩
    · rw [ho]
      refine ⟨?_, fun h => (by cases h), Nat.lt_of_lt_of_le hR.2.2 hz⟩
      have h9 : zw ca bs (zFz M) = zw ca bs M := rfl
      rw [h9]
      exact hR.1.kept fun k q hk => hq _ (hR.1 k q hk).lt
    · exact ⟨Nat.le_trans hS.1 hz, fun q h1 h2 => (hq q (Nat.lt_of_lt_of_le h1 hS.1)).trans (hS.2.1 q h1 h2)⟩
theorem z_throwW {ik ic is : Nat} {cls text : String} (ho : o = (.inr cls, zFz M)) (hT : zTh (zKy K).cls ik ic cls) (hstr : ((zKy K).cls, is, text) ∈ zstrs) (hh : zKh K = []) (hf : 5 < zKf K) (hlo : (sk.map fun v => v.category).sum + 82 ≤ zKo K) (hu : u + 1 ≤ zKm K) (hus : us + 6 ≤ zKs K)
    (d0 : decode (zKc K) pc = .ok (.new ik, 3)) (d3 : decode (zKc K) (pc + 3) = .ok (.dup, 1)) (d4 : decode (zKc K) (pc + 4) = .ok (.ldc_w is, 3)) (d7 : decode (zKc K) (pc + 7) = .ok (.invokespecial ic, 3)) (d10 : decode (zKc K) (pc + 10) = .ok (.athrow, 1)) : zV false E K n0 o pc ls sk M u us := by
  intro p l e R s m args below meth c D ca bs b H locs lr hC hR hS hA hn0 hL
  have hts := hC.2.2.2.2.1
  have hRm : R = zrm K := hC.2.2.2.2.2.2.1
  have hEv := hC.2.2.2.2.2.2.2.2.2.2.1
  obtain ⟨t1, t2, t3, t4, t5, t6, t7, t8⟩ := hT
  obtain ⟨sa, hsa⟩ := hEv.2.2.1 _ hstr
  refine vx_throwSW (names := zNm) (mc := zKm K) (ms := zKs K) hC.1 hC.2.1 hC.2.2.2.2.2.2.2.2.2.2.2.1 hC.2.2.2.1 t1 t8 (hts _ t2) (hts _ t3) hsa (vx_hat (fun w hw => hts _ (t4 w hw)) t5 (fun w hw => ?_)) t7 hEv.1 hEv.2.1 hS (by rw [hC.2.2.1]; exact hL.1) d0 d3 d4 d7 d10 ?_ (by rw [hRm]; exact hf) ?_ (by rw [hRm]; exact hu) (by rw [hRm]; exact hus) hC.2.2.2.2.2.1 (fun t hA9 hz hq => ?_) hS.2.2 hu hus
  · rcases List.mem_cons.mp hw with rfl | hw
    · exact va_Nw.use rfl (hEv.2.2.2.2.2.2.2.2.1 _ t6)
    · obtain ⟨y, hy, rfl⟩ := List.mem_map.mp hw
      exact va_Nw.use rfl (hEv.2.2.2.2.2.2.2.2.2.2 y hy)
  · rw [hC.2.2.2.2.2.2.2.2.1, hh]
    intro x hx
    cases hx
  · rw [hRm, List.map_map]
    have : ((fun v : Value => v.category) ∘ ztr bs b) = fun v => v.category := by funext v; exact ztr_cat
    rw [this]
    exact hlo
  · refine ⟨by rw [ho], ?_, ?_⟩
    · rw [ho]
      refine ⟨?_, fun h => (by cases h), Nat.lt_of_lt_of_le hR.2.2 hz⟩
      have h9 : zw ca bs (zFz M) = zw ca bs M := rfl
      rw [h9]
      exact hR.1.kept fun k q hk => hq _ (hR.1 k q hk).lt
    · exact ⟨Nat.le_trans hS.1 hz, fun q h1 h2 => (hq q (Nat.lt_of_lt_of_le h1 hS.1)).trans (hS.2.1 q h1 h2)⟩
/-- not caught here -/
theorem zX_out {Ex : String} (ho : o = (.inr Ex, M)) (hh : zKh K = []) (hu : u ≤ zKm K) (hus : us ≤ zKs K) : zX false E K n0 o pc ls M u us Ex := by
  intro p l e R s m args below meth c D ca bs b H locs lr rest q ce hC hR hS hA hn0 hL h1 h2 h3
  refine vx_out (E := Ex) (ce := ce) ?_ hC.2.2.2.2.2.1 h1 h2 h3 (fun t ht hA9 => ⟨by rw [ho], by rw [ho, ht]; exact hR, hS.F ht⟩) hS.2.2 hu hus
  rw [hC.2.2.2.2.2.2.2.2.1, hh]
  intro x hx
  cases hx
/-- caught by a row of the table; the handler keeps it in a local -/
theorem zX_catch {Ex : String} {i hp : Nat} {ls1 : List Value} (pre : List (Nat × Nat × Nat × Nat)) (x : Nat × Nat × Nat × Nat) (suf : List (Nat × Nat × Nat × Nat)) (hs : zKh K = pre ++ x :: suf) (hpre : ∀ z ∈ pre, z.2.2.2 ≠ 0 ∧ ∃ nm, Cond.classLink (zKy K).cls z.2.2.2 nm ∈ zG ∧ (Ex, nm) ∈ zNcs) (hx : x.1 ≤ pc ∧ pc < x.2.1) (hh : x.2.2.1 = hp) (h0 : x.2.2.2 ≠ 0) (hl : Cond.classLink (zKy K).cls x.2.2.2 Ex ∈ zG) (hX : Ex ∈ zXs) (hn : i < zKl K) (hl1 : ls.set i .null = ls1)
    (d : decode (zKc K) hp = .ok (.astore i, 2)) (kk : zV F E K n0 o (hp + 2) ls1 [] M u us) : zX F E K n0 o pc ls M u us Ex := by
  intro p l e R s m args below meth c D ca bs b H locs lr rest q ce hC hR hS hA hn0 hL h1 h2 h3
  have hts := hC.2.2.2.2.1
  have hEv := hC.2.2.2.2.2.2.2.2.2.2.1
  refine vx_catch (own := (zKy K).cls) (name := Ex) (E := Ex) (ce := ce) hC.2.2.2.1 (tableOf pre) ⟨x.1, x.2.1, x.2.2.1, x.2.2.2⟩ (tableOf suf) ?_ ?_ ?_ h0 (hts _ hl) (va_Nw.use rfl (hEv.2.2.2.2.2.2.2.2.1 _ hX)) h1 h2 h3 ?_
  · rw [hC.2.2.2.2.2.2.2.2.1, hs]
    simp [tableOf]
  · intro z hz
    simp only [tableOf, List.mem_map] at hz
    obtain ⟨z9, hz9, rfl⟩ := hz
    obtain ⟨g1, nm, g2, g3⟩ := hpre z9 hz9
    exact Or.inr ⟨g1, nm, hts _ g2, hEv.2.2.2.1 _ g3⟩
  · simp [covers, hx.1, hx.2]
  · rw [hh]
    subst hl1
    exact lv_astore (nL := zKl K) hC.1 hC.2.1 d (zL_has hL) hn rfl (fun lr1 h9 => kk p l e R s m args below meth c D ca bs b H locs lr1 hC hR hS hA hn0 (zL_setN hL h9))
theorem z_sld {i : Int32} (hin : vp_in i E.1) (hA0 : n0 = 0) (d : decode (zKc K) pc = .ok (.iaload, 1))
    (kk : zV F E K n0 o (pc + 1) ls (.int (E.2 i.toNatClampNeg) :: sk) M u us) : zV F E K n0 o pc ls (.int i :: .ref 0 :: sk) M u us := by
  intro p l e R s m args below meth c D ca bs b H locs lr hC hR hS hA hn0 hL
  have hEv := hC.2.2.2.2.2.2.2.2.2.2.1
  exact va_sld (rest := sk.map (ztr bs b)) hC.1 hC.2.1 hEv.2.2.2.2.1 hEv.2.2.2.2.2.1 (zA_b hC) hS hin d (kk p l e R s m args below meth c D ca bs b H locs lr hC hR hS hA hn0 hL)
theorem z_slen (d : decode (zKc K) pc = .ok (.arraylength, 1))
    (kk : zV F E K n0 o (pc + 1) ls (.int (Int32.ofNat E.1) :: sk) M u us) : zV F E K n0 o pc ls (.ref 0 :: sk) M u us := by
  intro p l e R s m args below meth c D ca bs b H locs lr hC hR hS hA hn0 hL
  have hEv := hC.2.2.2.2.2.2.2.2.2.2.1
  exact va_slen (rest := sk.map (ztr bs b)) hC.1 hC.2.1 hEv.2.2.2.2.1 hEv.2.2.2.2.2.1 (zA_b hC) hS d (kk p l e R s m args below meth c D ca bs b H locs lr hC hR hS hA hn0 hL)
theorem z_max {idx : Nat} {x y : Int32} (hl : Cond.methodLink (zKy K).cls idx Lib.Math.max.name ∈ zG) (h2 : Cond.static Lib.Math.max.name ∈ zG) (h3 : Cond.initialized "java/lang/Math" ∈ zG) (h4 : Cond.code Lib.Math.max.name Lib.Math.max.code 2 (some .int) ∈ zG) (hf : 1 ≤ zKf K) (hlo : (sk.map fun v => v.category).sum + 13 ≤ zKo K) (hu : u ≤ zKm K) (hus : us ≤ zKs K) (d : decode (zKc K) pc = .ok (.invokestatic idx, 3))
    (kk : zV F E K n0 o (pc + 3) ls (.int (if x < y then y else x) :: sk) M u us) : zV F E K n0 o pc ls (.int y :: .int x :: sk) M u us := by
  refine zgo (fun p l e R s m args below meth c D ca bs b H locs lr Q hC hR hL k9 => ?_) kk
  have hts := hC.2.2.2.2.1
  have hRm : R = zrm K := hC.2.2.2.2.2.2.1
  refine va_mmax (rest := sk.map (ztr bs b)) hC.1 hC.2.1 (hC.2.2.1.trans hL.1.symm) hC.2.2.2.1 (hts _ hl) (hts _ h2) (hts _ h3) (hts _ h4) (by rw [hRm]; exact hf) ?_ (by rw [hRm]; exact hu) (by rw [hRm]; exact hus) d k9
  rw [hRm, List.map_map]
  have : ((fun v : Value => v.category) ∘ ztr bs b) = fun v => v.category := by funext v; exact ztr_cat
  rw [this]
  exact hlo
theorem z_abs {idx : Nat} {x : Int32} (hl : Cond.methodLink (zKy K).cls idx Lib.Math.abs.name ∈ zG) (h2 : Cond.static Lib.Math.abs.name ∈ zG) (h3 : Cond.initialized "java/lang/Math" ∈ zG) (h4 : Cond.code Lib.Math.abs.name Lib.Math.abs.code 1 (some .int) ∈ zG) (hf : 1 ≤ zKf K) (hlo : (sk.map fun v => v.category).sum + 13 ≤ zKo K) (hu : u ≤ zKm K) (hus : us ≤ zKs K) (d : decode (zKc K) pc = .ok (.invokestatic idx, 3))
    (kk : zV F E K n0 o (pc + 3) ls (.int (if 0 ≤ x then x else 0 - x) :: sk) M u us) : zV F E K n0 o pc ls (.int x :: sk) M u us := by
  refine zgo (fun p l e R s m args below meth c D ca bs b H locs lr Q hC hR hL k9 => ?_) kk
  have hts := hC.2.2.2.2.1
  have hRm : R = zrm K := hC.2.2.2.2.2.2.1
  refine va_mabs (rest := sk.map (ztr bs b)) hC.1 hC.2.1 (hC.2.2.1.trans hL.1.symm) hC.2.2.2.1 (hts _ hl) (hts _ h2) (hts _ h3) (hts _ h4) (by rw [hRm]; exact hf) ?_ (by rw [hRm]; exact hu) (by rw [hRm]; exact hus) d k9
  rw [hRm, List.map_map]
  have : ((fun v : Value => v.category) ∘ ztr bs b) = fun v => v.category := by funext v; exact ztr_cat
  rw [this]
  exact hlo
theorem z_tabIn {x : Int32} {dflt lo hi : Int} {offs : Array Int} {len : Nat} (off : Int) (tgt : Nat) (h1 : ¬ x.toInt < lo) (h2 : ¬ hi < x.toInt) (ho : offs[(x.toInt - lo).toNat]? = some off) (ht : (pc : Int) + off = (tgt : Int)) (d : decode (zKc K) pc = .ok (.tableswitch dflt lo hi offs, len))
    (kk : zV F E K n0 o tgt ls sk M u us) : zV F E K n0 o pc ls (.int x :: sk) M u us := zgo (fun _ _ _ _ _ _ _ _ _ _ _ _ _ _ _ _ _ _ hC _ _ k9 => lv_tableIn hC.1 hC.2.1 d h1 h2 ho ht k9) kk
theorem z_tabOut {x : Int32} {dflt lo hi : Int} {offs : Array Int} {len : Nat} (tgt : Nat) (h : x.toInt < lo ∨ hi < x.toInt) (ht : (pc : Int) + dflt = (tgt : Int)) (d : decode (zKc K) pc = .ok (.tableswitch dflt lo hi offs, len))
    (kk : zV F E K n0 o tgt ls sk M u us) : zV F E K n0 o pc ls (.int x :: sk) M u us := zgo (fun _ _ _ _ _ _ _ _ _ _ _ _ _ _ _ _ _ _ hC _ _ k9 => lv_tableOut hC.1 hC.2.1 d h ht k9) kk
theorem z_look {x : Int32} {dflt : Int} {ps : Array (Int × Int)} {len : Nat} (off : Int) (tgt : Nat) (hp : (ps.toList.zip (ps.toList.drop 1)).all (fun (a, next) => a.1 < next.1) = true) (ho : Op.lookupswitch.offset ps.toList dflt x.toInt = off) (ht : (pc : Int) + off = (tgt : Int)) (d : decode (zKc K) pc = .ok (.lookupswitch dflt ps, len))
    (kk : zV F E K n0 o tgt ls sk M u us) : zV F E K n0 o pc ls (.int x :: sk) M u us := zgo (fun _ _ _ _ _ _ _ _ _ _ _ _ _ _ _ _ _ _ hC _ _ k9 => lv_lookup hC.1 hC.2.1 d hp ho ht k9) kk
/-- the locals at the entry: the arguments, then what isn't set -/
def zEnt (K : zK) (as : List Value) : List Value := as ++ List.replicate (zKl K - as.length) .null
theorem zent_L {bs b nL : Nat} {as : List Value} (h1 : as.length ≤ nL) (h2 : ∀ v ∈ as, v.category = 1 ∧ v ≠ .null) : ∃ lr : Array Slot, (lg_sl (as.map (ztr bs b)) ++ List.replicate (nL - (lg_sl (as.map (ztr bs b))).length) Slot.unset).toArray = lr ∧ zL bs b (as ++ List.replicate (nL - as.length) .null) lr nL := by
  have hsl : ∀ (l : List Value), (∀ v ∈ l, v.category = 1) → lg_sl (l.map (ztr bs b)) = l.map (fun v => Slot.val (ztr bs b v)) := by
    intro l
    induction l with
    | nil => intro _; rfl
    | cons v l ih =>
      intro h
      have hv : (ztr bs b v).category = 1 := by rw [ztr_cat]; exact h v List.mem_cons_self
      have ih' := ih (fun w hw => h w (List.mem_cons_of_mem _ hw))
      simp only [lg_sl, List.map_cons, List.flatMap_cons, hv] at ih' ⊢
      rw [ih']
      rfl
  have hs := hsl as (fun v hv => (h2 v hv).1)
  have hlen : (lg_sl (as.map (ztr bs b))).length = as.length := by rw [hs, List.length_map]
  have hh := lv_entry (as.map (ztr bs b)) (n := nL) (by rw [hlen]; exact h1)
  refine ⟨_, rfl, hh.1, hh.2.1, by simp; omega, fun v hv => ?_, fun i v hi hv => ?_⟩
  · rcases List.mem_append.mp hv with h | h
    · exact (h2 v h).1
    · rw [(List.mem_replicate.mp h).2]; rfl
  · rw [List.getElem?_toArray, hs]
    by_cases hl : i < as.length
    · rw [List.getElem?_append_left hl] at hi
      rw [List.getElem?_append_left (by rw [List.length_map]; exact hl), List.getElem?_map, hi]
      rfl
    · rw [List.getElem?_append_right (by omega)] at hi
      exact absurd (List.mem_replicate.mp (List.mem_of_getElem? hi)).2 hv
/-- a contract out of a walk -/
theorem zCt_of {as : List Value} {n : Nat} (hok : zOk K n) (h1 : as.length ≤ zKl K) (h2 : ∀ v ∈ as, v.category = 1 ∧ v ≠ .null) (hMM : zn M ≤ zn o.2 ∧ (zn M < zn o.2 → zt M = true)) (hn : 0 < zn M) (h : zV false E K (zn M) o 0 (zEnt K as) [] M 0 0) : zCt E K as M o := by
  refine ⟨hMM, fun l D ca bs b sz hl => ?_⟩
  have core : ∀ (p : Program) (e : Env) (s : State) (m : MethodId) (args : Array Value) (below : List Frame) (meth : Method) (c : Code) (s₁ : State), BodyLoose p l (zKy K) (headSpec (zws K) (zrm K)) (zKc K) (zKl K) (zKr K) e s m args below meth c s₁ → c.maxLocals = zKl K → c.exceptionTable.toList = tableOf (zKh K) → va_Pc (as.map (ztr bs b)) (zPre E D ca bs b M sz) args s →
      W p l e (headSpec (zws K) (zrm K)).room s m args below meth c s.heap [] 0 0 (vx_MQ below (zQc D ca bs b (zA bs (zn M) sz) o) (zXc D ca bs (zA bs (zn M) sz) o) args s (zKm K) (zKs K) (zA bs (zn M) sz)) (entryFrame m args (zKl K)) := by
    intro p e s m args below meth c s₁ B hml htab hv
    obtain ⟨rfl, hsz, hR, hK9, hEv, hb⟩ := hv
    subst hsz
    rw [lg_entry_eq]
    obtain ⟨lr, hlr, hL⟩ := zent_L (bs := bs) (b := b) (nL := zKl K) h1 h2
    rw [hlr]
    have hts := atoms_spec (ws := zws K) B.pre
    have hin : (zKy K).name = "<init>" → meth.name = "<init>" := fun h => by rw [← h]; exact (name_of_methodNamed B.named B.method).1
    exact h p l e (zrm K) s m _ below meth c D ca bs b s.heap [] lr ⟨B.exec, B.bytes, hml, findClass_of_methodNamed B.named, fun w hw => hts w (List.mem_cons_of_mem _ hw), B.notSynchronized, rfl, B.returns, htab, hK9, hEv, hl, hb, hR.2.2, hin⟩ hR va_S.rf (fun q a1 a2 => Or.inl ⟨a1, a2⟩) (Nat.le_refl _) hL
  rcases hh : zKh K with _ | ⟨x, t⟩
  · refine vx_ofW (cc := zKc K) (maxL := zKl K) (ret := zKr K) hok.2.2.2.2.2 (by rw [zws, zcw_plain hh]) fun p e s m args below meth c s₁ B hml ht hv => core p e s m args below meth c s₁ B hml ?_ hv
    rw [hh]
    rcases hc : c.exceptionTable.toList with _ | ⟨y, t9⟩
    · rfl
    · exact (ht y (by rw [hc]; exact List.mem_cons_self)).elim
  · refine vx_ofWH (cc := zKc K) (maxL := zKl K) (ret := zKr K) (hh := zKh K) hok.2.2.2.2.2 (by rw [zws, zcw_with hh]) fun p e s m args below meth c s₁ B hml hv => core p e s m args below meth c s₁ B hml ?_ hv
    have hts := atoms_spec (ws := zws K) B.pre
    exact vx_table (x := zKy K) B (hts (.codeWith (zKy K) (zKc K) (zKl K) (zKr K) (zKh K)) (by rw [zws, zcw_with hh]; exact List.mem_cons_self))
end ZN
end
section
/-! certificates: what the tables say of methods, links, fields (by program wip/whole/gen_cert.py) -/
theorem zu_of (ps : List Nat) {ws : List Cond} (hp : ws = ps.filterMap (fun i => tables_1[i]?)) (hg : ws.all goodWord = true) : ∀ w ∈ ws, w ∈ zG := by
  intro w hw
  have h1 := List.all_eq_true.mp hg w hw
  rw [hp] at hw
  obtain ⟨i, -, hi⟩ := List.mem_filterMap.mp hw
  exact zG_in i hi h1
theorem zu_0 : ∀ w ∈ u_ws RX0 TX0 7, w ∈ zG := zu_of [171, 173, 175, 177, 179, 181, 183] (by decide +kernel) (by decide +kernel)
theorem zu_1 : ∀ w ∈ u_ws RX1 TX1 4, w ∈ zG := zu_of [39, 41, 43, 45] (by decide +kernel) (by decide +kernel)
theorem zu_2 : ∀ w ∈ u_ws RX2 TX2 2, w ∈ zG := zu_of [147, 149] (by decide +kernel) (by decide +kernel)
theorem zu_3 : ∀ w ∈ u_ws RX3 TX3 4, w ∈ zG := zu_of [129, 131, 133, 135] (by decide +kernel) (by decide +kernel)
theorem zu_4 : ∀ w ∈ u_ws RX4 TX4 5, w ∈ zG := zu_of [84, 86, 88, 90, 92] (by decide +kernel) (by decide +kernel)
theorem zu_5 : ∀ w ∈ u_ws RX5 TX5 3, w ∈ zG := zu_of [61, 63, 65] (by decide +kernel) (by decide +kernel)
theorem zu_6 : ∀ w ∈ u_ws RX6 TX6 3, w ∈ zG := zu_of [104, 106, 108] (by decide +kernel) (by decide +kernel)
theorem zu_7 : ∀ w ∈ u_ws RX7 TX7 8, w ∈ zG := zu_of [195, 197, 199, 201, 203, 205, 207, 209] (by decide +kernel) (by decide +kernel)
theorem zu_8 : ∀ w ∈ u_ws RX8 TX8 34, w ∈ zG := zu_of [704, 706, 708, 710, 712, 714, 716, 718, 720, 722, 724, 726, 728, 730, 732, 734, 736, 738, 740, 742, 744, 746, 748, 750, 752, 754, 756, 758, 760, 762, 764, 766, 768, 770] (by decide +kernel) (by decide +kernel)
abbrev kX7_init : zK := (yX7_init, cX7_init, 2, none, 2, 35, 115, 2435, [])
theorem ko_X7_init : zOk kX7_init 0 := ⟨zG_in 21 (by decide +kernel) rfl, zG_in 1 (by decide +kernel) rfl, by decide +kernel, by decide +kernel, by decide +kernel, by decide +kernel⟩
abbrev kX1_init : zK := (yX1_init, cX1_init, 2, none, 1, 14, 4, 96, [])
theorem ko_X1_init : zOk kX1_init 0 := ⟨zG_in 29 (by decide +kernel) rfl, zG_in 2 (by decide +kernel) rfl, by decide +kernel, by decide +kernel, by decide +kernel, by decide +kernel⟩
abbrev kX5_init : zK := (yX5_init, cX5_init, 1, none, 1, 14, 2, 12, [])
theorem ko_X5_init : zOk kX5_init 0 := ⟨zG_in 53 (by decide +kernel) rfl, zG_in 3 (by decide +kernel) rfl, by decide +kernel, by decide +kernel, by decide +kernel, by decide +kernel⟩
abbrev kX4_init : zK := (yX4_init, cX4_init, 1, none, 1, 14, 4, 240, [])
theorem ko_X4_init : zOk kX4_init 0 := ⟨zG_in 72 (by decide +kernel) rfl, zG_in 4 (by decide +kernel) rfl, by decide +kernel, by decide +kernel, by decide +kernel, by decide +kernel⟩
abbrev kX6_init : zK := (yX6_init, cX6_init, 1, none, 1, 14, 3, 72, [])
theorem ko_X6_init : zOk kX6_init 0 := ⟨zG_in 99 (by decide +kernel) rfl, zG_in 5 (by decide +kernel) rfl, by decide +kernel, by decide +kernel, by decide +kernel, by decide +kernel⟩
abbrev kX3_init : zK := (yX3_init, cX3_init, 1, none, 1, 14, 3, 60, [])
theorem ko_X3_init : zOk kX3_init 0 := ⟨zG_in 119 (by decide +kernel) rfl, zG_in 6 (by decide +kernel) rfl, by decide +kernel, by decide +kernel, by decide +kernel, by decide +kernel⟩
abbrev kX2_init : zK := (yX2_init, cX2_init, 2, none, 1, 14, 1, 100, [])
theorem ko_X2_init : zOk kX2_init 0 := ⟨zG_in 141 (by decide +kernel) rfl, zG_in 7 (by decide +kernel) rfl, by decide +kernel, by decide +kernel, by decide +kernel, by decide +kernel⟩
abbrev kX0_init : zK := (yX0_init, cX0_init, 1, none, 1, 14, 6, 119, [])
theorem ko_X0_init : zOk kX0_init 0 := ⟨zG_in 155 (by decide +kernel) rfl, zG_in 8 (by decide +kernel) rfl, by decide +kernel, by decide +kernel, by decide +kernel, by decide +kernel⟩
abbrev kL_coast : zK := (yL_coast, cL_coast, 7, (some .int), 8, 127, 2, 12, [(0, 11, 14, 13), (0, 11, 18, 15), (0, 11, 22, 17)])
theorem ko_L_coast : zOk kL_coast 6 := ⟨zG_in 214 (by decide +kernel) rfl, zG_in 0 (by decide +kernel) rfl, by decide +kernel, by decide +kernel, by decide +kernel, by decide +kernel⟩
abbrev kX7_coast : zK := (yX7_coast, cX7_coast, 6, none, 7, 102, 2, 12, [])
theorem ko_X7_coast : zOk kX7_coast 5 := ⟨zG_in 221 (by decide +kernel) rfl, zG_in 1 (by decide +kernel) rfl, by decide +kernel, by decide +kernel, by decide +kernel, by decide +kernel⟩
abbrev kX7_needPoint : zK := (yX7_needPoint, cX7_needPoint, 1, none, 6, 82, 1, 6, [])
theorem ko_X7_needPoint : zOk kX7_needPoint 1 := ⟨zG_in 224 (by decide +kernel) rfl, zG_in 1 (by decide +kernel) rfl, by decide +kernel, by decide +kernel, by decide +kernel, by decide +kernel⟩
abbrev kX7_isWithin : zK := (yX7_isWithin, cX7_isWithin, 2, (some .boolean), 0, 0, 0, 0, [])
theorem ko_X7_isWithin : zOk kX7_isWithin 2 := ⟨zG_in 295 (by decide +kernel) rfl, zG_in 1 (by decide +kernel) rfl, by decide +kernel, by decide +kernel, by decide +kernel, by decide +kernel⟩
abbrev kX7_isName : zK := (yX7_isName, cX7_isName, 1, (some .boolean), 0, 0, 0, 0, [])
theorem ko_X7_isName : zOk kX7_isName 1 := ⟨zG_in 298 (by decide +kernel) rfl, zG_in 1 (by decide +kernel) rfl, by decide +kernel, by decide +kernel, by decide +kernel, by decide +kernel⟩
abbrev kX7_isYear : zK := (yX7_isYear, cX7_isYear, 1, (some .boolean), 0, 0, 0, 0, [])
theorem ko_X7_isYear : zOk kX7_isYear 1 := ⟨zG_in 301 (by decide +kernel) rfl, zG_in 1 (by decide +kernel) rfl, by decide +kernel, by decide +kernel, by decide +kernel, by decide +kernel⟩
abbrev kL_pilot : zK := (yL_pilot, cL_pilot, 5, (some .int), 7, 105, 1, 6, [(0, 10, 13, 15), (0, 10, 17, 17)])
theorem ko_L_pilot : zOk kL_pilot 4 := ⟨zG_in 336 (by decide +kernel) rfl, zG_in 0 (by decide +kernel) rfl, by decide +kernel, by decide +kernel, by decide +kernel, by decide +kernel⟩
abbrev kX7_pilot : zK := (yX7_pilot, cX7_pilot, 4, (some .int), 6, 82, 1, 6, [])
theorem ko_X7_pilot : zOk kX7_pilot 2 := ⟨zG_in 340 (by decide +kernel) rfl, zG_in 1 (by decide +kernel) rfl, by decide +kernel, by decide +kernel, by decide +kernel, by decide +kernel⟩
abbrev kL_report : zK := (yL_report, cL_report, 6, (some .int), 8, 130, 3, 18, [(0, 12, 15, 13), (0, 12, 19, 15), (0, 12, 23, 17)])
theorem ko_L_report : zOk kL_report 5 := ⟨zG_in 345 (by decide +kernel) rfl, zG_in 0 (by decide +kernel) rfl, by decide +kernel, by decide +kernel, by decide +kernel, by decide +kernel⟩
abbrev kX7_report : zK := (yX7_report, cX7_report, 9, (some .int), 7, 102, 3, 18, [])
theorem ko_X7_report : zOk kX7_report 3 := ⟨zG_in 349 (by decide +kernel) rfl, zG_in 1 (by decide +kernel) rfl, by decide +kernel, by decide +kernel, by decide +kernel, by decide +kernel⟩
abbrev kL_chart : zK := (yL_chart, cL_chart, 5, (some .int), 8, 127, 2, 12, [(0, 10, 13, 15), (0, 10, 17, 17)])
theorem ko_L_chart : zOk kL_chart 4 := ⟨zG_in 355 (by decide +kernel) rfl, zG_in 0 (by decide +kernel) rfl, by decide +kernel, by decide +kernel, by decide +kernel, by decide +kernel⟩
abbrev kX7_chart : zK := (yX7_chart, cX7_chart, 6, (some .int), 7, 102, 2, 12, [])
theorem ko_X7_chart : zOk kX7_chart 2 := ⟨zG_in 359 (by decide +kernel) rfl, zG_in 1 (by decide +kernel) rfl, by decide +kernel, by decide +kernel, by decide +kernel, by decide +kernel⟩
abbrev kX7_needRoomForChart : zK := (yX7_needRoomForChart, cX7_needRoomForChart, 1, none, 6, 82, 1, 6, [])
theorem ko_X7_needRoomForChart : zOk kX7_needRoomForChart 0 := ⟨zG_in 364 (by decide +kernel) rfl, zG_in 1 (by decide +kernel) rfl, by decide +kernel, by decide +kernel, by decide +kernel, by decide +kernel⟩
abbrev kX0_forget : zK := (yX0_forget, cX0_forget, 2, none, 1, 24, 0, 0, [])
theorem ko_X0_forget : zOk kX0_forget 1 := ⟨zG_in 369 (by decide +kernel) rfl, zG_in 8 (by decide +kernel) rfl, by decide +kernel, by decide +kernel, by decide +kernel, by decide +kernel⟩
abbrev kX0_put : zK := (yX0_put, cX0_put, 5, none, 0, 0, 0, 0, [])
theorem ko_X0_put : zOk kX0_put 4 := ⟨zG_in 374 (by decide +kernel) rfl, zG_in 8 (by decide +kernel) rfl, by decide +kernel, by decide +kernel, by decide +kernel, by decide +kernel⟩
abbrev kX7_layOut : zK := (yX7_layOut, cX7_layOut, 5, none, 2, 50, 0, 0, [])
theorem ko_X7_layOut : zOk kX7_layOut 2 := ⟨zG_in 379 (by decide +kernel) rfl, zG_in 1 (by decide +kernel) rfl, by decide +kernel, by decide +kernel, by decide +kernel, by decide +kernel⟩
abbrev kX7_gather : zK := (yX7_gather, cX7_gather, 8, none, 1, 23, 0, 0, [])
theorem ko_X7_gather : zOk kX7_gather 2 := ⟨zG_in 383 (by decide +kernel) rfl, zG_in 1 (by decide +kernel) rfl, by decide +kernel, by decide +kernel, by decide +kernel, by decide +kernel⟩
abbrev kX6_begin : zK := (yX6_begin, cX6_begin, 2, none, 0, 0, 0, 0, [])
theorem ko_X6_begin : zOk kX6_begin 0 := ⟨zG_in 387 (by decide +kernel) rfl, zG_in 5 (by decide +kernel) rfl, by decide +kernel, by decide +kernel, by decide +kernel, by decide +kernel⟩
abbrev kX0_knows : zK := (yX0_knows, cX0_knows, 2, (some .boolean), 0, 0, 0, 0, [])
theorem ko_X0_knows : zOk kX0_knows 1 := ⟨zG_in 391 (by decide +kernel) rfl, zG_in 8 (by decide +kernel) rfl, by decide +kernel, by decide +kernel, by decide +kernel, by decide +kernel⟩
abbrev kX6_give : zK := (yX6_give, cX6_give, 4, none, 0, 0, 0, 0, [])
theorem ko_X6_give : zOk kX6_give 3 := ⟨zG_in 395 (by decide +kernel) rfl, zG_in 5 (by decide +kernel) rfl, by decide +kernel, by decide +kernel, by decide +kernel, by decide +kernel⟩
abbrev kX6_settle : zK := (yX6_settle, cX6_settle, 5, (some .boolean), 1, 24, 0, 0, [])
theorem ko_X6_settle : zOk kX6_settle 1 := ⟨zG_in 399 (by decide +kernel) rfl, zG_in 5 (by decide +kernel) rfl, by decide +kernel, by decide +kernel, by decide +kernel, by decide +kernel⟩
abbrev kL_hand : zK := (yL_hand, cL_hand, 5, (some .int), 8, 127, 2, 12, [(0, 10, 13, 13), (0, 10, 17, 15)])
theorem ko_L_hand : zOk kL_hand 4 := ⟨zG_in 403 (by decide +kernel) rfl, zG_in 0 (by decide +kernel) rfl, by decide +kernel, by decide +kernel, by decide +kernel, by decide +kernel⟩
abbrev kX7_hand : zK := (yX7_hand, cX7_hand, 5, (some .int), 7, 103, 2, 12, [])
theorem ko_X7_hand : zOk kX7_hand 2 := ⟨zG_in 407 (by decide +kernel) rfl, zG_in 1 (by decide +kernel) rfl, by decide +kernel, by decide +kernel, by decide +kernel, by decide +kernel⟩
abbrev kX7_copyistOf : zK := (yX7_copyistOf, cX7_copyistOf, 2, (some (.object "PortolanHall$Copyist")), 6, 82, 1, 6, [])
theorem ko_X7_copyistOf : zOk kX7_copyistOf 1 := ⟨zG_in 411 (by decide +kernel) rfl, zG_in 1 (by decide +kernel) rfl, by decide +kernel, by decide +kernel, by decide +kernel, by decide +kernel⟩
abbrev kL_reads : zK := (yL_reads, cL_reads, 5, (some .int), 8, 127, 2, 12, [(0, 7, 10, 13), (0, 7, 14, 15)])
theorem ko_L_reads : zOk kL_reads 4 := ⟨zG_in 416 (by decide +kernel) rfl, zG_in 0 (by decide +kernel) rfl, by decide +kernel, by decide +kernel, by decide +kernel, by decide +kernel⟩
abbrev kX7_reads : zK := (yX7_reads, cX7_reads, 5, none, 7, 103, 2, 12, [])
theorem ko_X7_reads : zOk kX7_reads 3 := ⟨zG_in 420 (by decide +kernel) rfl, zG_in 1 (by decide +kernel) rfl, by decide +kernel, by decide +kernel, by decide +kernel, by decide +kernel⟩
abbrev kL_copy : zK := (yL_copy, cL_copy, 7, (some .int), 8, 134, 4, 24, [(0, 14, 17, 13), (0, 14, 21, 15), (0, 14, 25, 17)])
theorem ko_L_copy : zOk kL_copy 6 := ⟨zG_in 424 (by decide +kernel) rfl, zG_in 0 (by decide +kernel) rfl, by decide +kernel, by decide +kernel, by decide +kernel, by decide +kernel⟩
abbrev kX7_copy : zK := (yX7_copy, cX7_copy, 12, (some .int), 7, 103, 4, 24, [])
theorem ko_X7_copy : zOk kX7_copy 4 := ⟨zG_in 428 (by decide +kernel) rfl, zG_in 1 (by decide +kernel) rfl, by decide +kernel, by decide +kernel, by decide +kernel, by decide +kernel⟩
abbrev kX7_chartOf : zK := (yX7_chartOf, cX7_chartOf, 2, (some (.object "PortolanHall$Chart")), 6, 82, 1, 6, [])
theorem ko_X7_chartOf : zOk kX7_chartOf 1 := ⟨zG_in 432 (by decide +kernel) rfl, zG_in 1 (by decide +kernel) rfl, by decide +kernel, by decide +kernel, by decide +kernel, by decide +kernel⟩
abbrev kX2_readingOf : zK := (yX2_readingOf, cX2_readingOf, 2, (some .int), 1, 20, 0, 0, [])
theorem ko_X2_readingOf : zOk kX2_readingOf 1 := ⟨zG_in 438 (by decide +kernel) rfl, zG_in 7 (by decide +kernel) rfl, by decide +kernel, by decide +kernel, by decide +kernel, by decide +kernel⟩
abbrev kX7_drawn : zK := (yX7_drawn, cX7_drawn, 3, (some .int), 0, 0, 0, 0, [])
theorem ko_X7_drawn : zOk kX7_drawn 3 := ⟨zG_in 442 (by decide +kernel) rfl, zG_in 1 (by decide +kernel) rfl, by decide +kernel, by decide +kernel, by decide +kernel, by decide +kernel⟩
abbrev kX0_takeFrame : zK := (yX0_takeFrame, cX0_takeFrame, 3, none, 0, 0, 0, 0, [])
theorem ko_X0_takeFrame : zOk kX0_takeFrame 1 := ⟨zG_in 446 (by decide +kernel) rfl, zG_in 8 (by decide +kernel) rfl, by decide +kernel, by decide +kernel, by decide +kernel, by decide +kernel⟩
abbrev kL_paste : zK := (yL_paste, cL_paste, 7, (some .int), 8, 133, 5, 30, [(0, 14, 17, 13), (0, 14, 21, 15), (0, 14, 25, 17)])
theorem ko_L_paste : zOk kL_paste 6 := ⟨zG_in 449 (by decide +kernel) rfl, zG_in 0 (by decide +kernel) rfl, by decide +kernel, by decide +kernel, by decide +kernel, by decide +kernel⟩
abbrev kX7_paste : zK := (yX7_paste, cX7_paste, 11, (some .int), 7, 103, 5, 30, [])
theorem ko_X7_paste : zOk kX7_paste 4 := ⟨zG_in 453 (by decide +kernel) rfl, zG_in 1 (by decide +kernel) rfl, by decide +kernel, by decide +kernel, by decide +kernel, by decide +kernel⟩
abbrev kX7_leadsBack : zK := (yX7_leadsBack, cX7_leadsBack, 8, (some .boolean), 1, 22, 0, 0, [])
theorem ko_X7_leadsBack : zOk kX7_leadsBack 4 := ⟨zG_in 459 (by decide +kernel) rfl, zG_in 1 (by decide +kernel) rfl, by decide +kernel, by decide +kernel, by decide +kernel, by decide +kernel⟩
abbrev kX7_sourceOf : zK := (yX7_sourceOf, cX7_sourceOf, 3, (some .int), 0, 0, 0, 0, [])
theorem ko_X7_sourceOf : zOk kX7_sourceOf 2 := ⟨zG_in 463 (by decide +kernel) rfl, zG_in 1 (by decide +kernel) rfl, by decide +kernel, by decide +kernel, by decide +kernel, by decide +kernel⟩
abbrev kX0_fitsMoved : zK := (yX0_fitsMoved, cX0_fitsMoved, 6, (some .boolean), 2, 42, 0, 0, [])
theorem ko_X0_fitsMoved : zOk kX0_fitsMoved 4 := ⟨zG_in 468 (by decide +kernel) rfl, zG_in 8 (by decide +kernel) rfl, by decide +kernel, by decide +kernel, by decide +kernel, by decide +kernel⟩
abbrev kX0_isPlace : zK := (yX0_isPlace, cX0_isPlace, 2, (some .boolean), 1, 21, 0, 0, [])
theorem ko_X0_isPlace : zOk kX0_isPlace 2 := ⟨zG_in 472 (by decide +kernel) rfl, zG_in 8 (by decide +kernel) rfl, by decide +kernel, by decide +kernel, by decide +kernel, by decide +kernel⟩
abbrev kX0_knownFrom : zK := (yX0_knownFrom, cX0_knownFrom, 5, (some .int), 1, 21, 0, 0, [])
theorem ko_X0_knownFrom : zOk kX0_knownFrom 2 := ⟨zG_in 478 (by decide +kernel) rfl, zG_in 8 (by decide +kernel) rfl, by decide +kernel, by decide +kernel, by decide +kernel, by decide +kernel⟩
abbrev kL_island : zK := (yL_island, cL_island, 6, (some .int), 8, 128, 2, 12, [(0, 12, 15, 13), (0, 12, 19, 15), (0, 12, 23, 17)])
theorem ko_L_island : zOk kL_island 5 := ⟨zG_in 481 (by decide +kernel) rfl, zG_in 0 (by decide +kernel) rfl, by decide +kernel, by decide +kernel, by decide +kernel, by decide +kernel⟩
abbrev kX7_island : zK := (yX7_island, cX7_island, 6, (some .int), 7, 103, 2, 12, [])
theorem ko_X7_island : zOk kX7_island 3 := ⟨zG_in 485 (by decide +kernel) rfl, zG_in 1 (by decide +kernel) rfl, by decide +kernel, by decide +kernel, by decide +kernel, by decide +kernel⟩
abbrev kL_exchange : zK := (yL_exchange, cL_exchange, 5, (some .int), 8, 128, 3, 18, [(0, 7, 10, 13)])
theorem ko_L_exchange : zOk kL_exchange 4 := ⟨zG_in 490 (by decide +kernel) rfl, zG_in 0 (by decide +kernel) rfl, by decide +kernel, by decide +kernel, by decide +kernel, by decide +kernel⟩
abbrev kX7_exchange : zK := (yX7_exchange, cX7_exchange, 6, none, 7, 103, 3, 18, [])
theorem ko_X7_exchange : zOk kX7_exchange 3 := ⟨zG_in 494 (by decide +kernel) rfl, zG_in 1 (by decide +kernel) rfl, by decide +kernel, by decide +kernel, by decide +kernel, by decide +kernel⟩
abbrev kL_shrink : zK := (yL_shrink, cL_shrink, 7, (some .int), 8, 128, 3, 18, [(0, 14, 17, 13), (0, 14, 21, 15), (0, 14, 25, 17)])
theorem ko_L_shrink : zOk kL_shrink 6 := ⟨zG_in 497 (by decide +kernel) rfl, zG_in 0 (by decide +kernel) rfl, by decide +kernel, by decide +kernel, by decide +kernel, by decide +kernel⟩
abbrev kX7_shrink : zK := (yX7_shrink, cX7_shrink, 6, (some .int), 7, 103, 3, 18, [])
theorem ko_X7_shrink : zOk kX7_shrink 4 := ⟨zG_in 501 (by decide +kernel) rfl, zG_in 1 (by decide +kernel) rfl, by decide +kernel, by decide +kernel, by decide +kernel, by decide +kernel⟩
abbrev kX7_needBasin : zK := (yX7_needBasin, cX7_needBasin, 1, none, 6, 82, 1, 6, [])
theorem ko_X7_needBasin : zOk kX7_needBasin 1 := ⟨zG_in 504 (by decide +kernel) rfl, zG_in 1 (by decide +kernel) rfl, by decide +kernel, by decide +kernel, by decide +kernel, by decide +kernel⟩
abbrev kX0_fitsShrunk : zK := (yX0_fitsShrunk, cX0_fitsShrunk, 4, (some .boolean), 2, 42, 0, 0, [])
theorem ko_X0_fitsShrunk : zOk kX0_fitsShrunk 2 := ⟨zG_in 510 (by decide +kernel) rfl, zG_in 8 (by decide +kernel) rfl, by decide +kernel, by decide +kernel, by decide +kernel, by decide +kernel⟩
abbrev kX7_firstOf : zK := (yX7_firstOf, cX7_firstOf, 1, (some .int), 0, 0, 0, 0, [])
theorem ko_X7_firstOf : zOk kX7_firstOf 1 := ⟨zG_in 513 (by decide +kernel) rfl, zG_in 1 (by decide +kernel) rfl, by decide +kernel, by decide +kernel, by decide +kernel, by decide +kernel⟩
abbrev kX7_lastOf : zK := (yX7_lastOf, cX7_lastOf, 1, (some .int), 1, 20, 0, 0, [])
theorem ko_X7_lastOf : zOk kX7_lastOf 1 := ⟨zG_in 516 (by decide +kernel) rfl, zG_in 1 (by decide +kernel) rfl, by decide +kernel, by decide +kernel, by decide +kernel, by decide +kernel⟩
abbrev kX0_shrunk : zK := (yX0_shrunk, cX0_shrunk, 2, (some .int), 0, 0, 0, 0, [])
theorem ko_X0_shrunk : zOk kX0_shrunk 2 := ⟨zG_in 520 (by decide +kernel) rfl, zG_in 8 (by decide +kernel) rfl, by decide +kernel, by decide +kernel, by decide +kernel, by decide +kernel⟩
abbrev kX0_shrinkPlaces : zK := (yX0_shrinkPlaces, cX0_shrinkPlaces, 4, none, 2, 40, 0, 0, [])
theorem ko_X0_shrinkPlaces : zOk kX0_shrinkPlaces 2 := ⟨zG_in 524 (by decide +kernel) rfl, zG_in 8 (by decide +kernel) rfl, by decide +kernel, by decide +kernel, by decide +kernel, by decide +kernel⟩
abbrev kL_lose : zK := (yL_lose, cL_lose, 6, (some .int), 8, 129, 4, 24, [(0, 12, 15, 13), (0, 12, 19, 15)])
theorem ko_L_lose : zOk kL_lose 5 := ⟨zG_in 527 (by decide +kernel) rfl, zG_in 0 (by decide +kernel) rfl, by decide +kernel, by decide +kernel, by decide +kernel, by decide +kernel⟩
abbrev kX7_lose : zK := (yX7_lose, cX7_lose, 7, (some .int), 7, 103, 4, 24, [])
theorem ko_X7_lose : zOk kX7_lose 3 := ⟨zG_in 531 (by decide +kernel) rfl, zG_in 1 (by decide +kernel) rfl, by decide +kernel, by decide +kernel, by decide +kernel, by decide +kernel⟩
abbrev kL_paint : zK := (yL_paint, cL_paint, 5, (some .int), 8, 127, 2, 12, [(0, 17, 20, 13)])
theorem ko_L_paint : zOk kL_paint 4 := ⟨zG_in 535 (by decide +kernel) rfl, zG_in 0 (by decide +kernel) rfl, by decide +kernel, by decide +kernel, by decide +kernel, by decide +kernel⟩
abbrev kX7_paint : zK := (yX7_paint, cX7_paint, 5, (some .boolean), 7, 103, 2, 12, [])
theorem ko_X7_paint : zOk kX7_paint 2 := ⟨zG_in 539 (by decide +kernel) rfl, zG_in 1 (by decide +kernel) rfl, by decide +kernel, by decide +kernel, by decide +kernel, by decide +kernel⟩
abbrev kX7_needIsland : zK := (yX7_needIsland, cX7_needIsland, 2, none, 6, 82, 1, 6, [])
theorem ko_X7_needIsland : zOk kX7_needIsland 1 := ⟨zG_in 543 (by decide +kernel) rfl, zG_in 1 (by decide +kernel) rfl, by decide +kernel, by decide +kernel, by decide +kernel, by decide +kernel⟩
abbrev kL_told : zK := (yL_told, cL_told, 5, (some .int), 7, 104, 1, 6, [(0, 10, 13, 13)])
theorem ko_L_told : zOk kL_told 4 := ⟨zG_in 547 (by decide +kernel) rfl, zG_in 0 (by decide +kernel) rfl, by decide +kernel, by decide +kernel, by decide +kernel, by decide +kernel⟩
abbrev kX7_told : zK := (yX7_told, cX7_told, 3, (some .int), 6, 82, 1, 6, [])
theorem ko_X7_told : zOk kX7_told 2 := ⟨zG_in 551 (by decide +kernel) rfl, zG_in 1 (by decide +kernel) rfl, by decide +kernel, by decide +kernel, by decide +kernel, by decide +kernel⟩
abbrev kL_at : zK := (yL_at, cL_at, 6, (some .int), 8, 127, 3, 18, [(0, 12, 15, 13), (0, 12, 19, 15)])
theorem ko_L_at : zOk kL_at 5 := ⟨zG_in 555 (by decide +kernel) rfl, zG_in 0 (by decide +kernel) rfl, by decide +kernel, by decide +kernel, by decide +kernel, by decide +kernel⟩
abbrev kX7_at : zK := (yX7_at, cX7_at, 5, (some .int), 7, 103, 3, 18, [])
theorem ko_X7_at : zOk kX7_at 3 := ⟨zG_in 559 (by decide +kernel) rfl, zG_in 1 (by decide +kernel) rfl, by decide +kernel, by decide +kernel, by decide +kernel, by decide +kernel⟩
abbrev kX7_errorOf : zK := (yX7_errorOf, cX7_errorOf, 4, (some .int), 0, 0, 0, 0, [])
theorem ko_X7_errorOf : zOk kX7_errorOf 3 := ⟨zG_in 563 (by decide +kernel) rfl, zG_in 1 (by decide +kernel) rfl, by decide +kernel, by decide +kernel, by decide +kernel, by decide +kernel⟩
abbrev kL_chain : zK := (yL_chain, cL_chain, 6, (some .int), 8, 129, 3, 18, [(0, 12, 15, 13)])
theorem ko_L_chain : zOk kL_chain 5 := ⟨zG_in 568 (by decide +kernel) rfl, zG_in 0 (by decide +kernel) rfl, by decide +kernel, by decide +kernel, by decide +kernel, by decide +kernel⟩
abbrev kX7_chain : zK := (yX7_chain, cX7_chain, 7, (some .int), 7, 103, 3, 18, [])
theorem ko_X7_chain : zOk kX7_chain 3 := ⟨zG_in 572 (by decide +kernel) rfl, zG_in 1 (by decide +kernel) rfl, by decide +kernel, by decide +kernel, by decide +kernel, by decide +kernel⟩
abbrev kL_of : zK := (yL_of, cL_of, 5, (some .int), 8, 126, 2, 12, [(0, 10, 13, 13), (0, 10, 17, 15)])
theorem ko_L_of : zOk kL_of 4 := ⟨zG_in 576 (by decide +kernel) rfl, zG_in 0 (by decide +kernel) rfl, by decide +kernel, by decide +kernel, by decide +kernel, by decide +kernel⟩
abbrev kX7_of : zK := (yX7_of, cX7_of, 4, (some .int), 7, 103, 2, 12, [])
theorem ko_X7_of : zOk kX7_of 2 := ⟨zG_in 580 (by decide +kernel) rfl, zG_in 1 (by decide +kernel) rfl, by decide +kernel, by decide +kernel, by decide +kernel, by decide +kernel⟩
abbrev kX0_islandCount : zK := (yX0_islandCount, cX0_islandCount, 1, (some .int), 1, 23, 0, 0, [])
theorem ko_X0_islandCount : zOk kX0_islandCount 0 := ⟨zG_in 584 (by decide +kernel) rfl, zG_in 8 (by decide +kernel) rfl, by decide +kernel, by decide +kernel, by decide +kernel, by decide +kernel⟩
abbrev kX0_islandsWith : zK := (yX0_islandsWith, cX0_islandsWith, 4, (some .int), 0, 0, 0, 0, [])
theorem ko_X0_islandsWith : zOk kX0_islandsWith 1 := ⟨zG_in 588 (by decide +kernel) rfl, zG_in 8 (by decide +kernel) rfl, by decide +kernel, by decide +kernel, by decide +kernel, by decide +kernel⟩
abbrev kX7_falseNames : zK := (yX7_falseNames, cX7_falseNames, 4, (some .int), 1, 22, 0, 0, [])
theorem ko_X7_falseNames : zOk kX7_falseNames 1 := ⟨zG_in 592 (by decide +kernel) rfl, zG_in 1 (by decide +kernel) rfl, by decide +kernel, by decide +kernel, by decide +kernel, by decide +kernel⟩
abbrev kX7_hasTrueName : zK := (yX7_hasTrueName, cX7_hasTrueName, 3, (some .boolean), 0, 0, 0, 0, [])
theorem ko_X7_hasTrueName : zOk kX7_hasTrueName 2 := ⟨zG_in 596 (by decide +kernel) rfl, zG_in 1 (by decide +kernel) rfl, by decide +kernel, by decide +kernel, by decide +kernel, by decide +kernel⟩
abbrev kL_ofIsland : zK := (yL_ofIsland, cL_ofIsland, 5, (some .int), 8, 125, 2, 12, [(0, 10, 13, 13), (0, 10, 17, 15)])
theorem ko_L_ofIsland : zOk kL_ofIsland 4 := ⟨zG_in 599 (by decide +kernel) rfl, zG_in 0 (by decide +kernel) rfl, by decide +kernel, by decide +kernel, by decide +kernel, by decide +kernel⟩
abbrev kX7_ofIsland : zK := (yX7_ofIsland, cX7_ofIsland, 3, (some .int), 7, 103, 2, 12, [])
theorem ko_X7_ofIsland : zOk kX7_ofIsland 2 := ⟨zG_in 603 (by decide +kernel) rfl, zG_in 1 (by decide +kernel) rfl, by decide +kernel, by decide +kernel, by decide +kernel, by decide +kernel⟩
abbrev kX7_chartsWith : zK := (yX7_chartsWith, cX7_chartsWith, 4, (some .int), 0, 0, 0, 0, [])
theorem ko_X7_chartsWith : zOk kX7_chartsWith 1 := ⟨zG_in 607 (by decide +kernel) rfl, zG_in 1 (by decide +kernel) rfl, by decide +kernel, by decide +kernel, by decide +kernel, by decide +kernel⟩
abbrev kX7_highestChartWith : zK := (yX7_highestChartWith, cX7_highestChartWith, 4, (some .int), 0, 0, 0, 0, [])
theorem ko_X7_highestChartWith : zOk kX7_highestChartWith 1 := ⟨zG_in 611 (by decide +kernel) rfl, zG_in 1 (by decide +kernel) rfl, by decide +kernel, by decide +kernel, by decide +kernel, by decide +kernel⟩
abbrev kL_fit : zK := (yL_fit, cL_fit, 6, (some .int), 8, 127, 3, 18, [(0, 12, 15, 13), (0, 12, 19, 15)])
theorem ko_L_fit : zOk kL_fit 5 := ⟨zG_in 614 (by decide +kernel) rfl, zG_in 0 (by decide +kernel) rfl, by decide +kernel, by decide +kernel, by decide +kernel, by decide +kernel⟩
abbrev kX7_fit : zK := (yX7_fit, cX7_fit, 5, (some .int), 7, 103, 3, 18, [])
theorem ko_X7_fit : zOk kX7_fit 3 := ⟨zG_in 618 (by decide +kernel) rfl, zG_in 1 (by decide +kernel) rfl, by decide +kernel, by decide +kernel, by decide +kernel, by decide +kernel⟩
abbrev kX7_shift : zK := (yX7_shift, cX7_shift, 7, (some .int), 2, 40, 0, 0, [])
theorem ko_X7_shift : zOk kX7_shift 3 := ⟨zG_in 622 (by decide +kernel) rfl, zG_in 1 (by decide +kernel) rfl, by decide +kernel, by decide +kernel, by decide +kernel, by decide +kernel⟩
abbrev kX7_residual : zK := (yX7_residual, cX7_residual, 7, (some .int), 3, 66, 0, 0, [])
theorem ko_X7_residual : zOk kX7_residual 2 := ⟨zG_in 627 (by decide +kernel) rfl, zG_in 1 (by decide +kernel) rfl, by decide +kernel, by decide +kernel, by decide +kernel, by decide +kernel⟩
abbrev kJ9_abs_0f7a4 : zK := (yJ9_abs_0f7a4, cJ9_abs_0f7a4, 1, (some .int), 0, 0, 0, 0, [])
abbrev kL_shared : zK := (yL_shared, cL_shared, 6, (some .int), 8, 128, 3, 18, [(0, 12, 15, 13)])
theorem ko_L_shared : zOk kL_shared 5 := ⟨zG_in 633 (by decide +kernel) rfl, zG_in 0 (by decide +kernel) rfl, by decide +kernel, by decide +kernel, by decide +kernel, by decide +kernel⟩
abbrev kX7_shared : zK := (yX7_shared, cX7_shared, 6, (some .int), 7, 103, 3, 18, [])
theorem ko_X7_shared : zOk kX7_shared 3 := ⟨zG_in 637 (by decide +kernel) rfl, zG_in 1 (by decide +kernel) rfl, by decide +kernel, by decide +kernel, by decide +kernel, by decide +kernel⟩
abbrev kX7_sharedBy : zK := (yX7_sharedBy, cX7_sharedBy, 6, (some .int), 2, 47, 0, 0, [])
theorem ko_X7_sharedBy : zOk kX7_sharedBy 3 := ⟨zG_in 641 (by decide +kernel) rfl, zG_in 1 (by decide +kernel) rfl, by decide +kernel, by decide +kernel, by decide +kernel, by decide +kernel⟩
abbrev kX7_shareError : zK := (yX7_shareError, cX7_shareError, 5, (some .boolean), 1, 23, 0, 0, [])
theorem ko_X7_shareError : zOk kX7_shareError 3 := ⟨zG_in 646 (by decide +kernel) rfl, zG_in 1 (by decide +kernel) rfl, by decide +kernel, by decide +kernel, by decide +kernel, by decide +kernel⟩
abbrev kL_kin : zK := (yL_kin, cL_kin, 5, (some .int), 8, 130, 2, 12, [(0, 10, 13, 13)])
theorem ko_L_kin : zOk kL_kin 4 := ⟨zG_in 649 (by decide +kernel) rfl, zG_in 0 (by decide +kernel) rfl, by decide +kernel, by decide +kernel, by decide +kernel, by decide +kernel⟩
abbrev kX7_kin : zK := (yX7_kin, cX7_kin, 8, (some .int), 7, 103, 2, 12, [])
theorem ko_X7_kin : zOk kX7_kin 2 := ⟨zG_in 653 (by decide +kernel) rfl, zG_in 1 (by decide +kernel) rfl, by decide +kernel, by decide +kernel, by decide +kernel, by decide +kernel⟩
abbrev kL_date : zK := (yL_date, cL_date, 5, (some .int), 8, 128, 2, 12, [(0, 10, 13, 13)])
theorem ko_L_date : zOk kL_date 4 := ⟨zG_in 656 (by decide +kernel) rfl, zG_in 0 (by decide +kernel) rfl, by decide +kernel, by decide +kernel, by decide +kernel, by decide +kernel⟩
abbrev kX7_date : zK := (yX7_date, cX7_date, 6, (some .int), 7, 103, 2, 12, [])
theorem ko_X7_date : zOk kX7_date 2 := ⟨zG_in 660 (by decide +kernel) rfl, zG_in 1 (by decide +kernel) rfl, by decide +kernel, by decide +kernel, by decide +kernel, by decide +kernel⟩
abbrev kJ9_max_7cf53 : zK := (yJ9_max_7cf53, cJ9_max_7cf53, 2, (some .int), 0, 0, 0, 0, [])
abbrev kX8_init : zK := (yX8_init, cX8_init, 3, none, 1, 14, 27, 2636, [])
theorem ko_X8_init : zOk kX8_init 0 := ⟨zG_in 668 (by decide +kernel) rfl, zG_in 9 (by decide +kernel) rfl, by decide +kernel, by decide +kernel, by decide +kernel, by decide +kernel⟩
abbrev kX8_thrown : zK := (yX8_thrown, cX8_thrown, 1, (some .int), 0, 0, 0, 0, [])
theorem ko_X8_thrown : zOk kX8_thrown 0 := ⟨zG_in 776 (by decide +kernel) rfl, zG_in 9 (by decide +kernel) rfl, by decide +kernel, by decide +kernel, by decide +kernel, by decide +kernel⟩
abbrev kX8_coast : zK := (yX8_coast, cX8_coast, 7, none, 2, 42, 0, 0, [])
theorem ko_X8_coast : zOk kX8_coast 5 := ⟨zG_in 780 (by decide +kernel) rfl, zG_in 9 (by decide +kernel) rfl, by decide +kernel, by decide +kernel, by decide +kernel, by decide +kernel⟩
abbrev kX8_isIn : zK := (yX8_isIn, cX8_isIn, 3, (some .boolean), 0, 0, 0, 0, [])
theorem ko_X8_isIn : zOk kX8_isIn 3 := ⟨zG_in 783 (by decide +kernel) rfl, zG_in 9 (by decide +kernel) rfl, by decide +kernel, by decide +kernel, by decide +kernel, by decide +kernel⟩
abbrev kX8_isName : zK := (yX8_isName, cX8_isName, 1, (some .boolean), 1, 22, 0, 0, [])
theorem ko_X8_isName : zOk kX8_isName 1 := ⟨zG_in 786 (by decide +kernel) rfl, zG_in 9 (by decide +kernel) rfl, by decide +kernel, by decide +kernel, by decide +kernel, by decide +kernel⟩
abbrev kX8_isYear : zK := (yX8_isYear, cX8_isYear, 1, (some .boolean), 1, 22, 0, 0, [])
theorem ko_X8_isYear : zOk kX8_isYear 1 := ⟨zG_in 789 (by decide +kernel) rfl, zG_in 9 (by decide +kernel) rfl, by decide +kernel, by decide +kernel, by decide +kernel, by decide +kernel⟩
abbrev kX8_isPoint : zK := (yX8_isPoint, cX8_isPoint, 1, (some .boolean), 1, 22, 0, 0, [])
theorem ko_X8_isPoint : zOk kX8_isPoint 1 := ⟨zG_in 792 (by decide +kernel) rfl, zG_in 9 (by decide +kernel) rfl, by decide +kernel, by decide +kernel, by decide +kernel, by decide +kernel⟩
abbrev kX8_pilot : zK := (yX8_pilot, cX8_pilot, 4, (some .int), 1, 22, 0, 0, [])
theorem ko_X8_pilot : zOk kX8_pilot 2 := ⟨zG_in 796 (by decide +kernel) rfl, zG_in 9 (by decide +kernel) rfl, by decide +kernel, by decide +kernel, by decide +kernel, by decide +kernel⟩
abbrev kX8_report : zK := (yX8_report, cX8_report, 9, (some .int), 2, 42, 0, 0, [])
theorem ko_X8_report : zOk kX8_report 3 := ⟨zG_in 800 (by decide +kernel) rfl, zG_in 9 (by decide +kernel) rfl, by decide +kernel, by decide +kernel, by decide +kernel, by decide +kernel⟩
abbrev kX8_chart : zK := (yX8_chart, cX8_chart, 5, (some .int), 3, 68, 0, 0, [])
theorem ko_X8_chart : zOk kX8_chart 2 := ⟨zG_in 804 (by decide +kernel) rfl, zG_in 9 (by decide +kernel) rfl, by decide +kernel, by decide +kernel, by decide +kernel, by decide +kernel⟩
abbrev kX8_spot : zK := (yX8_spot, cX8_spot, 2, (some .int), 0, 0, 0, 0, [])
theorem ko_X8_spot : zOk kX8_spot 2 := ⟨zG_in 807 (by decide +kernel) rfl, zG_in 9 (by decide +kernel) rfl, by decide +kernel, by decide +kernel, by decide +kernel, by decide +kernel⟩
abbrev kX8_rounds : zK := (yX8_rounds, cX8_rounds, 4, (some .boolean), 2, 45, 0, 0, [])
theorem ko_X8_rounds : zOk kX8_rounds 1 := ⟨zG_in 811 (by decide +kernel) rfl, zG_in 9 (by decide +kernel) rfl, by decide +kernel, by decide +kernel, by decide +kernel, by decide +kernel⟩
abbrev kX8_gives : zK := (yX8_gives, cX8_gives, 5, none, 1, 21, 0, 0, [])
theorem ko_X8_gives : zOk kX8_gives 4 := ⟨zG_in 815 (by decide +kernel) rfl, zG_in 9 (by decide +kernel) rfl, by decide +kernel, by decide +kernel, by decide +kernel, by decide +kernel⟩
abbrev kX8_hand : zK := (yX8_hand, cX8_hand, 4, (some .int), 2, 42, 0, 0, [])
theorem ko_X8_hand : zOk kX8_hand 2 := ⟨zG_in 819 (by decide +kernel) rfl, zG_in 9 (by decide +kernel) rfl, by decide +kernel, by decide +kernel, by decide +kernel, by decide +kernel⟩
abbrev kX8_isCopyist : zK := (yX8_isCopyist, cX8_isCopyist, 1, (some .boolean), 1, 22, 0, 0, [])
theorem ko_X8_isCopyist : zOk kX8_isCopyist 1 := ⟨zG_in 822 (by decide +kernel) rfl, zG_in 9 (by decide +kernel) rfl, by decide +kernel, by decide +kernel, by decide +kernel, by decide +kernel⟩
abbrev kX8_reads : zK := (yX8_reads, cX8_reads, 4, none, 2, 42, 0, 0, [])
theorem ko_X8_reads : zOk kX8_reads 3 := ⟨zG_in 826 (by decide +kernel) rfl, zG_in 9 (by decide +kernel) rfl, by decide +kernel, by decide +kernel, by decide +kernel, by decide +kernel⟩
abbrev kX8_copy : zK := (yX8_copy, cX8_copy, 10, (some .int), 2, 43, 0, 0, [])
theorem ko_X8_copy : zOk kX8_copy 4 := ⟨zG_in 830 (by decide +kernel) rfl, zG_in 9 (by decide +kernel) rfl, by decide +kernel, by decide +kernel, by decide +kernel, by decide +kernel⟩
abbrev kX8_isChart : zK := (yX8_isChart, cX8_isChart, 2, (some .boolean), 1, 22, 0, 0, [])
theorem ko_X8_isChart : zOk kX8_isChart 1 := ⟨zG_in 834 (by decide +kernel) rfl, zG_in 9 (by decide +kernel) rfl, by decide +kernel, by decide +kernel, by decide +kernel, by decide +kernel⟩
abbrev kX8_made : zK := (yX8_made, cX8_made, 3, (some .int), 0, 0, 0, 0, [])
theorem ko_X8_made : zOk kX8_made 3 := ⟨zG_in 837 (by decide +kernel) rfl, zG_in 9 (by decide +kernel) rfl, by decide +kernel, by decide +kernel, by decide +kernel, by decide +kernel⟩
abbrev kX8_paste : zK := (yX8_paste, cX8_paste, 15, (some .int), 3, 67, 0, 0, [])
theorem ko_X8_paste : zOk kX8_paste 4 := ⟨zG_in 841 (by decide +kernel) rfl, zG_in 9 (by decide +kernel) rfl, by decide +kernel, by decide +kernel, by decide +kernel, by decide +kernel⟩
abbrev kX8_isInChain : zK := (yX8_isInChain, cX8_isInChain, 5, (some .boolean), 2, 43, 0, 0, [])
theorem ko_X8_isInChain : zOk kX8_isInChain 3 := ⟨zG_in 845 (by decide +kernel) rfl, zG_in 9 (by decide +kernel) rfl, by decide +kernel, by decide +kernel, by decide +kernel, by decide +kernel⟩
abbrev kX8_next : zK := (yX8_next, cX8_next, 3, (some .int), 1, 21, 0, 0, [])
theorem ko_X8_next : zOk kX8_next 2 := ⟨zG_in 849 (by decide +kernel) rfl, zG_in 9 (by decide +kernel) rfl, by decide +kernel, by decide +kernel, by decide +kernel, by decide +kernel⟩
abbrev kX8_isNear : zK := (yX8_isNear, cX8_isNear, 4, (some .boolean), 1, 22, 0, 0, [])
theorem ko_X8_isNear : zOk kX8_isNear 3 := ⟨zG_in 853 (by decide +kernel) rfl, zG_in 9 (by decide +kernel) rfl, by decide +kernel, by decide +kernel, by decide +kernel, by decide +kernel⟩
abbrev kX8_island : zK := (yX8_island, cX8_island, 5, (some .int), 2, 43, 0, 0, [])
theorem ko_X8_island : zOk kX8_island 3 := ⟨zG_in 857 (by decide +kernel) rfl, zG_in 9 (by decide +kernel) rfl, by decide +kernel, by decide +kernel, by decide +kernel, by decide +kernel⟩
abbrev kX8_exchange : zK := (yX8_exchange, cX8_exchange, 5, none, 2, 43, 0, 0, [])
theorem ko_X8_exchange : zOk kX8_exchange 3 := ⟨zG_in 861 (by decide +kernel) rfl, zG_in 9 (by decide +kernel) rfl, by decide +kernel, by decide +kernel, by decide +kernel, by decide +kernel⟩
abbrev kX8_shrink : zK := (yX8_shrink, cX8_shrink, 8, (some .int), 2, 48, 0, 0, [])
theorem ko_X8_shrink : zOk kX8_shrink 4 := ⟨zG_in 865 (by decide +kernel) rfl, zG_in 9 (by decide +kernel) rfl, by decide +kernel, by decide +kernel, by decide +kernel, by decide +kernel⟩
abbrev kX8_isBasin : zK := (yX8_isBasin, cX8_isBasin, 1, (some .boolean), 1, 22, 0, 0, [])
theorem ko_X8_isBasin : zOk kX8_isBasin 1 := ⟨zG_in 868 (by decide +kernel) rfl, zG_in 9 (by decide +kernel) rfl, by decide +kernel, by decide +kernel, by decide +kernel, by decide +kernel⟩
abbrev kX8_canShrink : zK := (yX8_canShrink, cX8_canShrink, 7, (some .boolean), 1, 22, 0, 0, [])
theorem ko_X8_canShrink : zOk kX8_canShrink 3 := ⟨zG_in 872 (by decide +kernel) rfl, zG_in 9 (by decide +kernel) rfl, by decide +kernel, by decide +kernel, by decide +kernel, by decide +kernel⟩
abbrev kX8_lose : zK := (yX8_lose, cX8_lose, 7, (some .int), 2, 43, 0, 0, [])
theorem ko_X8_lose : zOk kX8_lose 3 := ⟨zG_in 876 (by decide +kernel) rfl, zG_in 9 (by decide +kernel) rfl, by decide +kernel, by decide +kernel, by decide +kernel, by decide +kernel⟩
abbrev kX8_paint : zK := (yX8_paint, cX8_paint, 4, (some .boolean), 2, 43, 0, 0, [])
theorem ko_X8_paint : zOk kX8_paint 2 := ⟨zG_in 880 (by decide +kernel) rfl, zG_in 9 (by decide +kernel) rfl, by decide +kernel, by decide +kernel, by decide +kernel, by decide +kernel⟩
abbrev kX8_isIsland : zK := (yX8_isIsland, cX8_isIsland, 2, (some .boolean), 1, 22, 0, 0, [])
theorem ko_X8_isIsland : zOk kX8_isIsland 1 := ⟨zG_in 884 (by decide +kernel) rfl, zG_in 9 (by decide +kernel) rfl, by decide +kernel, by decide +kernel, by decide +kernel, by decide +kernel⟩
abbrev kX8_told : zK := (yX8_told, cX8_told, 3, (some .int), 1, 22, 0, 0, [])
theorem ko_X8_told : zOk kX8_told 2 := ⟨zG_in 888 (by decide +kernel) rfl, zG_in 9 (by decide +kernel) rfl, by decide +kernel, by decide +kernel, by decide +kernel, by decide +kernel⟩
abbrev kX8_at : zK := (yX8_at, cX8_at, 5, (some .int), 2, 43, 0, 0, [])
theorem ko_X8_at : zOk kX8_at 3 := ⟨zG_in 892 (by decide +kernel) rfl, zG_in 9 (by decide +kernel) rfl, by decide +kernel, by decide +kernel, by decide +kernel, by decide +kernel⟩
abbrev kX8_chain : zK := (yX8_chain, cX8_chain, 6, (some .int), 2, 43, 0, 0, [])
theorem ko_X8_chain : zOk kX8_chain 3 := ⟨zG_in 897 (by decide +kernel) rfl, zG_in 9 (by decide +kernel) rfl, by decide +kernel, by decide +kernel, by decide +kernel, by decide +kernel⟩
abbrev kX8_of : zK := (yX8_of, cX8_of, 7, (some .int), 2, 43, 0, 0, [])
theorem ko_X8_of : zOk kX8_of 2 := ⟨zG_in 901 (by decide +kernel) rfl, zG_in 9 (by decide +kernel) rfl, by decide +kernel, by decide +kernel, by decide +kernel, by decide +kernel⟩
abbrev kX8_ofIsland : zK := (yX8_ofIsland, cX8_ofIsland, 6, (some .int), 2, 43, 0, 0, [])
theorem ko_X8_ofIsland : zOk kX8_ofIsland 2 := ⟨zG_in 905 (by decide +kernel) rfl, zG_in 9 (by decide +kernel) rfl, by decide +kernel, by decide +kernel, by decide +kernel, by decide +kernel⟩
abbrev kX8_fit : zK := (yX8_fit, cX8_fit, 7, (some .int), 2, 43, 0, 0, [])
theorem ko_X8_fit : zOk kX8_fit 3 := ⟨zG_in 909 (by decide +kernel) rfl, zG_in 9 (by decide +kernel) rfl, by decide +kernel, by decide +kernel, by decide +kernel, by decide +kernel⟩
abbrev kX8_shifts : zK := (yX8_shifts, cX8_shifts, 6, none, 0, 0, 0, 0, [])
theorem ko_X8_shifts : zOk kX8_shifts 2 := ⟨zG_in 913 (by decide +kernel) rfl, zG_in 9 (by decide +kernel) rfl, by decide +kernel, by decide +kernel, by decide +kernel, by decide +kernel⟩
abbrev kX8_size : zK := (yX8_size, cX8_size, 1, (some .int), 0, 0, 0, 0, [])
theorem ko_X8_size : zOk kX8_size 1 := ⟨zG_in 916 (by decide +kernel) rfl, zG_in 9 (by decide +kernel) rfl, by decide +kernel, by decide +kernel, by decide +kernel, by decide +kernel⟩
abbrev kX8_shared : zK := (yX8_shared, cX8_shared, 4, (some .int), 2, 43, 0, 0, [])
theorem ko_X8_shared : zOk kX8_shared 3 := ⟨zG_in 920 (by decide +kernel) rfl, zG_in 9 (by decide +kernel) rfl, by decide +kernel, by decide +kernel, by decide +kernel, by decide +kernel⟩
abbrev kX8_sharedBy : zK := (yX8_sharedBy, cX8_sharedBy, 9, (some .int), 0, 0, 0, 0, [])
theorem ko_X8_sharedBy : zOk kX8_sharedBy 3 := ⟨zG_in 924 (by decide +kernel) rfl, zG_in 9 (by decide +kernel) rfl, by decide +kernel, by decide +kernel, by decide +kernel, by decide +kernel⟩
abbrev kX8_kin : zK := (yX8_kin, cX8_kin, 7, (some .int), 2, 43, 0, 0, [])
theorem ko_X8_kin : zOk kX8_kin 2 := ⟨zG_in 928 (by decide +kernel) rfl, zG_in 9 (by decide +kernel) rfl, by decide +kernel, by decide +kernel, by decide +kernel, by decide +kernel⟩
abbrev kX8_date : zK := (yX8_date, cX8_date, 6, (some .int), 2, 43, 0, 0, [])
theorem ko_X8_date : zOk kX8_date 2 := ⟨zG_in 932 (by decide +kernel) rfl, zG_in 9 (by decide +kernel) rfl, by decide +kernel, by decide +kernel, by decide +kernel, by decide +kernel⟩
abbrev kL_law : zK := (yL_law, cL_law, 7, ret, 11, 406, 601024, 7293034, [])
theorem kl_X7_1 : Cond.methodLink RX7 1 objectInit ∈ zG := zG_in 22 (by decide +kernel) rfl
theorem kn_X7_7 : zN RX7 7 1 := ⟨RX1, TX1, 4, tyX1, rfl, rfl, zu_1, zG_in 25 (by decide +kernel) rfl, zG_in 26 (by decide +kernel) rfl, zG_in 2 (by decide +kernel) rfl, tyX1_ok, by decide +kernel⟩
theorem kl_X7_9 : zLI RX7 9 yX1_init := ⟨zG_in 27 (by decide +kernel) rfl, zG_in 28 (by decide +kernel) rfl, rfl⟩
theorem kf_X7_10 : zF RX7 10 7 0 := ⟨RX7, TX7, 8, tyX7, rfl, rfl, by decide, zu_7, zG_in 187 (by decide +kernel) rfl, rfl, tyX7_ok, nmX7, fun h => absurd h (by decide), fun _ => ⟨rfl, fun a => ⟨rfl, rfl⟩⟩⟩
theorem kn_X7_16 : zN RX7 16 5 := ⟨RX5, TX5, 3, tyX5, rfl, rfl, zu_5, zG_in 49 (by decide +kernel) rfl, zG_in 50 (by decide +kernel) rfl, zG_in 3 (by decide +kernel) rfl, tyX5_ok, by decide +kernel⟩
theorem kl_X7_18 : zLIN RX7 18 yX5_init := ⟨⟨"PortolanHall", by decide +kernel⟩, zG_in 52 (by decide +kernel) rfl, rfl⟩
theorem kf_X7_19 : zF RX7 19 7 1 := ⟨RX7, TX7, 8, tyX7, rfl, rfl, by decide, zu_7, zG_in 188 (by decide +kernel) rfl, rfl, tyX7_ok, nmX7, fun h => absurd h (by decide), fun _ => ⟨rfl, fun a => ⟨rfl, rfl⟩⟩⟩
theorem kn_X7_23 : zN RX7 23 4 := ⟨RX4, TX4, 5, tyX4, rfl, rfl, zu_4, zG_in 68 (by decide +kernel) rfl, zG_in 69 (by decide +kernel) rfl, zG_in 4 (by decide +kernel) rfl, tyX4_ok, by decide +kernel⟩
theorem kl_X7_25 : zLIN RX7 25 yX4_init := ⟨⟨"PortolanHall", by decide +kernel⟩, zG_in 71 (by decide +kernel) rfl, rfl⟩
theorem kf_X7_26 : zF RX7 26 7 2 := ⟨RX7, TX7, 8, tyX7, rfl, rfl, by decide, zu_7, zG_in 189 (by decide +kernel) rfl, rfl, tyX7_ok, nmX7, fun h => absurd h (by decide), fun _ => ⟨rfl, fun a => ⟨rfl, rfl⟩⟩⟩
theorem kn_X7_30 : zN RX7 30 6 := ⟨RX6, TX6, 3, tyX6, rfl, rfl, zu_6, zG_in 95 (by decide +kernel) rfl, zG_in 96 (by decide +kernel) rfl, zG_in 5 (by decide +kernel) rfl, tyX6_ok, by decide +kernel⟩
theorem kl_X7_32 : zLIN RX7 32 yX6_init := ⟨⟨"PortolanHall", by decide +kernel⟩, zG_in 98 (by decide +kernel) rfl, rfl⟩
theorem kf_X7_33 : zF RX7 33 7 3 := ⟨RX7, TX7, 8, tyX7, rfl, rfl, by decide, zu_7, zG_in 190 (by decide +kernel) rfl, rfl, tyX7_ok, nmX7, fun h => absurd h (by decide), fun _ => ⟨rfl, fun a => ⟨rfl, rfl⟩⟩⟩
theorem kq_X7_37 : Cond.classLink RX7 37 RX2 ∈ zG := zG_in 111 (by decide +kernel) rfl
theorem kf_X7_39 : zF RX7 39 7 4 := ⟨RX7, TX7, 8, tyX7, rfl, rfl, by decide, zu_7, zG_in 191 (by decide +kernel) rfl, rfl, tyX7_ok, nmX7, fun h => absurd h (by decide), fun _ => ⟨rfl, fun a => ⟨rfl, rfl⟩⟩⟩
theorem kq_X7_43 : Cond.classLink RX7 43 RX0 ∈ zG := zG_in 113 (by decide +kernel) rfl
theorem kf_X7_45 : zF RX7 45 7 5 := ⟨RX7, TX7, 8, tyX7, rfl, rfl, by decide, zu_7, zG_in 192 (by decide +kernel) rfl, rfl, tyX7_ok, nmX7, fun h => absurd h (by decide), fun _ => ⟨rfl, fun a => ⟨rfl, rfl⟩⟩⟩
theorem kn_X7_49 : zN RX7 49 3 := ⟨RX3, TX3, 4, tyX3, rfl, rfl, zu_3, zG_in 115 (by decide +kernel) rfl, zG_in 116 (by decide +kernel) rfl, zG_in 6 (by decide +kernel) rfl, tyX3_ok, by decide +kernel⟩
theorem kl_X7_51 : zLIN RX7 51 yX3_init := ⟨⟨"PortolanHall", by decide +kernel⟩, zG_in 118 (by decide +kernel) rfl, rfl⟩
theorem kf_X7_52 : zF RX7 52 7 6 := ⟨RX7, TX7, 8, tyX7, rfl, rfl, by decide, zu_7, zG_in 193 (by decide +kernel) rfl, rfl, tyX7_ok, nmX7, fun h => absurd h (by decide), fun _ => ⟨rfl, fun a => ⟨rfl, rfl⟩⟩⟩
theorem kf_X7_56 : zF RX7 56 7 7 := ⟨RX7, TX7, 8, tyX7, rfl, rfl, by decide, zu_7, zG_in 194 (by decide +kernel) rfl, rfl, tyX7_ok, nmX7, fun _ => ⟨rfl, rfl⟩, fun h => absurd h (by decide)⟩
theorem kn_X7_37 : zN RX7 37 2 := ⟨RX2, TX2, 2, tyX2, rfl, rfl, zu_2, zG_in 111 (by decide +kernel) rfl, zG_in 138 (by decide +kernel) rfl, zG_in 7 (by decide +kernel) rfl, tyX2_ok, by decide +kernel⟩
theorem kl_X7_60 : zLI RX7 60 yX2_init := ⟨zG_in 139 (by decide +kernel) rfl, zG_in 140 (by decide +kernel) rfl, rfl⟩
theorem kn_X7_43 : zN RX7 43 0 := ⟨RX0, TX0, 7, tyX0, rfl, rfl, zu_0, zG_in 113 (by decide +kernel) rfl, zG_in 152 (by decide +kernel) rfl, zG_in 8 (by decide +kernel) rfl, tyX0_ok, by decide +kernel⟩
theorem kl_X7_61 : zLIN RX7 61 yX0_init := ⟨⟨"PortolanHall", by decide +kernel⟩, zG_in 154 (by decide +kernel) rfl, rfl⟩
theorem kl_X1_3 : Cond.methodLink RX1 3 objectInit ∈ zG := zG_in 30 (by decide +kernel) rfl
theorem kf_X1_9 : zF RX1 9 1 0 := ⟨RX1, TX1, 4, tyX1, rfl, rfl, by decide, zu_1, zG_in 31 (by decide +kernel) rfl, rfl, tyX1_ok, nmX1, fun h => absurd h (by decide), fun _ => ⟨rfl, fun a => ⟨rfl, rfl⟩⟩⟩
theorem kf_X1_15 : zF RX1 15 1 1 := ⟨RX1, TX1, 4, tyX1, rfl, rfl, by decide, zu_1, zG_in 33 (by decide +kernel) rfl, rfl, tyX1_ok, nmX1, fun h => absurd h (by decide), fun _ => ⟨rfl, fun a => ⟨rfl, rfl⟩⟩⟩
theorem kf_X1_18 : zF RX1 18 1 2 := ⟨RX1, TX1, 4, tyX1, rfl, rfl, by decide, zu_1, zG_in 35 (by decide +kernel) rfl, rfl, tyX1_ok, nmX1, fun h => absurd h (by decide), fun _ => ⟨rfl, fun a => ⟨rfl, rfl⟩⟩⟩
theorem kf_X1_21 : zF RX1 21 1 3 := ⟨RX1, TX1, 4, tyX1, rfl, rfl, by decide, zu_1, zG_in 37 (by decide +kernel) rfl, rfl, tyX1_ok, nmX1, fun h => absurd h (by decide), fun _ => ⟨rfl, fun a => ⟨rfl, rfl⟩⟩⟩
theorem kl_X5_3 : Cond.methodLink RX5 3 objectInit ∈ zG := zG_in 54 (by decide +kernel) rfl
theorem kf_X5_9 : zF RX5 9 5 0 := ⟨RX5, TX5, 3, tyX5, rfl, rfl, by decide, zu_5, zG_in 55 (by decide +kernel) rfl, rfl, tyX5_ok, nmX5, fun h => absurd h (by decide), fun _ => ⟨rfl, fun a => ⟨rfl, rfl⟩⟩⟩
theorem kf_X5_15 : zF RX5 15 5 1 := ⟨RX5, TX5, 3, tyX5, rfl, rfl, by decide, zu_5, zG_in 57 (by decide +kernel) rfl, rfl, tyX5_ok, nmX5, fun h => absurd h (by decide), fun _ => ⟨rfl, fun a => ⟨rfl, rfl⟩⟩⟩
theorem kf_X5_18 : zF RX5 18 5 2 := ⟨RX5, TX5, 3, tyX5, rfl, rfl, by decide, zu_5, zG_in 59 (by decide +kernel) rfl, rfl, tyX5_ok, nmX5, fun _ => ⟨rfl, rfl⟩, fun h => absurd h (by decide)⟩
theorem kl_X4_3 : Cond.methodLink RX4 3 objectInit ∈ zG := zG_in 73 (by decide +kernel) rfl
theorem kf_X4_9 : zF RX4 9 4 0 := ⟨RX4, TX4, 5, tyX4, rfl, rfl, by decide, zu_4, zG_in 74 (by decide +kernel) rfl, rfl, tyX4_ok, nmX4, fun h => absurd h (by decide), fun _ => ⟨rfl, fun a => ⟨rfl, rfl⟩⟩⟩
theorem kf_X4_15 : zF RX4 15 4 1 := ⟨RX4, TX4, 5, tyX4, rfl, rfl, by decide, zu_4, zG_in 76 (by decide +kernel) rfl, rfl, tyX4_ok, nmX4, fun h => absurd h (by decide), fun _ => ⟨rfl, fun a => ⟨rfl, rfl⟩⟩⟩
theorem kf_X4_18 : zF RX4 18 4 2 := ⟨RX4, TX4, 5, tyX4, rfl, rfl, by decide, zu_4, zG_in 78 (by decide +kernel) rfl, rfl, tyX4_ok, nmX4, fun h => absurd h (by decide), fun _ => ⟨rfl, fun a => ⟨rfl, rfl⟩⟩⟩
theorem kf_X4_21 : zF RX4 21 4 3 := ⟨RX4, TX4, 5, tyX4, rfl, rfl, by decide, zu_4, zG_in 80 (by decide +kernel) rfl, rfl, tyX4_ok, nmX4, fun h => absurd h (by decide), fun _ => ⟨rfl, fun a => ⟨rfl, rfl⟩⟩⟩
theorem kf_X4_24 : zF RX4 24 4 4 := ⟨RX4, TX4, 5, tyX4, rfl, rfl, by decide, zu_4, zG_in 82 (by decide +kernel) rfl, rfl, tyX4_ok, nmX4, fun _ => ⟨rfl, rfl⟩, fun h => absurd h (by decide)⟩
theorem kl_X6_3 : Cond.methodLink RX6 3 objectInit ∈ zG := zG_in 100 (by decide +kernel) rfl
theorem kf_X6_9 : zF RX6 9 6 0 := ⟨RX6, TX6, 3, tyX6, rfl, rfl, by decide, zu_6, zG_in 101 (by decide +kernel) rfl, rfl, tyX6_ok, nmX6, fun h => absurd h (by decide), fun _ => ⟨rfl, fun a => ⟨rfl, rfl⟩⟩⟩
theorem kf_X6_15 : zF RX6 15 6 1 := ⟨RX6, TX6, 3, tyX6, rfl, rfl, by decide, zu_6, zG_in 102 (by decide +kernel) rfl, rfl, tyX6_ok, nmX6, fun h => absurd h (by decide), fun _ => ⟨rfl, fun a => ⟨rfl, rfl⟩⟩⟩
theorem kf_X6_18 : zF RX6 18 6 2 := ⟨RX6, TX6, 3, tyX6, rfl, rfl, by decide, zu_6, zG_in 103 (by decide +kernel) rfl, rfl, tyX6_ok, nmX6, fun h => absurd h (by decide), fun _ => ⟨rfl, fun a => ⟨rfl, rfl⟩⟩⟩
theorem kl_X3_3 : Cond.methodLink RX3 3 objectInit ∈ zG := zG_in 120 (by decide +kernel) rfl
theorem kf_X3_9 : zF RX3 9 3 0 := ⟨RX3, TX3, 4, tyX3, rfl, rfl, by decide, zu_3, zG_in 121 (by decide +kernel) rfl, rfl, tyX3_ok, nmX3, fun h => absurd h (by decide), fun _ => ⟨rfl, fun a => ⟨rfl, rfl⟩⟩⟩
theorem kf_X3_15 : zF RX3 15 3 1 := ⟨RX3, TX3, 4, tyX3, rfl, rfl, by decide, zu_3, zG_in 123 (by decide +kernel) rfl, rfl, tyX3_ok, nmX3, fun h => absurd h (by decide), fun _ => ⟨rfl, fun a => ⟨rfl, rfl⟩⟩⟩
theorem kf_X3_18 : zF RX3 18 3 2 := ⟨RX3, TX3, 4, tyX3, rfl, rfl, by decide, zu_3, zG_in 125 (by decide +kernel) rfl, rfl, tyX3_ok, nmX3, fun h => absurd h (by decide), fun _ => ⟨rfl, fun a => ⟨rfl, rfl⟩⟩⟩
theorem kf_X3_21 : zF RX3 21 3 3 := ⟨RX3, TX3, 4, tyX3, rfl, rfl, by decide, zu_3, zG_in 127 (by decide +kernel) rfl, rfl, tyX3_ok, nmX3, fun _ => ⟨rfl, rfl⟩, fun h => absurd h (by decide)⟩
theorem kl_X2_3 : Cond.methodLink RX2 3 objectInit ∈ zG := zG_in 142 (by decide +kernel) rfl
theorem kf_X2_9 : zF RX2 9 2 0 := ⟨RX2, TX2, 2, tyX2, rfl, rfl, by decide, zu_2, zG_in 143 (by decide +kernel) rfl, rfl, tyX2_ok, nmX2, fun _ => ⟨rfl, rfl⟩, fun h => absurd h (by decide)⟩
theorem kf_X2_15 : zF RX2 15 2 1 := ⟨RX2, TX2, 2, tyX2, rfl, rfl, by decide, zu_2, zG_in 145 (by decide +kernel) rfl, rfl, tyX2_ok, nmX2, fun h => absurd h (by decide), fun _ => ⟨rfl, fun a => ⟨rfl, rfl⟩⟩⟩
theorem kl_X0_3 : Cond.methodLink RX0 3 objectInit ∈ zG := zG_in 156 (by decide +kernel) rfl
theorem kf_X0_9 : zF RX0 9 0 0 := ⟨RX0, TX0, 7, tyX0, rfl, rfl, by decide, zu_0, zG_in 157 (by decide +kernel) rfl, rfl, tyX0_ok, nmX0, fun _ => ⟨rfl, rfl⟩, fun h => absurd h (by decide)⟩
theorem kf_X0_15 : zF RX0 15 0 1 := ⟨RX0, TX0, 7, tyX0, rfl, rfl, by decide, zu_0, zG_in 159 (by decide +kernel) rfl, rfl, tyX0_ok, nmX0, fun h => absurd h (by decide), fun _ => ⟨rfl, fun a => ⟨rfl, rfl⟩⟩⟩
theorem kf_X0_19 : zF RX0 19 0 2 := ⟨RX0, TX0, 7, tyX0, rfl, rfl, by decide, zu_0, zG_in 161 (by decide +kernel) rfl, rfl, tyX0_ok, nmX0, fun h => absurd h (by decide), fun _ => ⟨rfl, fun a => ⟨rfl, rfl⟩⟩⟩
theorem kf_X0_22 : zF RX0 22 0 3 := ⟨RX0, TX0, 7, tyX0, rfl, rfl, by decide, zu_0, zG_in 163 (by decide +kernel) rfl, rfl, tyX0_ok, nmX0, fun h => absurd h (by decide), fun _ => ⟨rfl, fun a => ⟨rfl, rfl⟩⟩⟩
theorem kf_X0_25 : zF RX0 25 0 4 := ⟨RX0, TX0, 7, tyX0, rfl, rfl, by decide, zu_0, zG_in 165 (by decide +kernel) rfl, rfl, tyX0_ok, nmX0, fun h => absurd h (by decide), fun _ => ⟨rfl, fun a => ⟨rfl, rfl⟩⟩⟩
theorem kf_X0_28 : zF RX0 28 0 5 := ⟨RX0, TX0, 7, tyX0, rfl, rfl, by decide, zu_0, zG_in 167 (by decide +kernel) rfl, rfl, tyX0_ok, nmX0, fun h => absurd h (by decide), fun _ => ⟨rfl, fun a => ⟨rfl, rfl⟩⟩⟩
theorem kf_X0_31 : zF RX0 31 0 6 := ⟨RX0, TX0, 7, tyX0, rfl, rfl, by decide, zu_0, zG_in 169 (by decide +kernel) rfl, rfl, tyX0_ok, nmX0, fun h => absurd h (by decide), fun _ => ⟨rfl, fun a => ⟨rfl, rfl⟩⟩⟩
theorem kl_L_7 : zLV RL 7 yX7_coast := ⟨zG_in 218 (by decide +kernel) rfl, zG_in 219 (by decide +kernel) rfl, zG_in 220 (by decide +kernel) rfl⟩
theorem kl_X7_62 : zLS RX7 62 yX7_needPoint := ⟨zG_in 222 (by decide +kernel) rfl, zG_in 223 (by decide +kernel) rfl⟩
theorem kl_X7_66 : zLS RX7 66 yX7_isWithin := ⟨zG_in 293 (by decide +kernel) rfl, zG_in 294 (by decide +kernel) rfl⟩
theorem kl_X7_70 : zLS RX7 70 yX7_isName := ⟨zG_in 296 (by decide +kernel) rfl, zG_in 297 (by decide +kernel) rfl⟩
theorem kl_X7_74 : zLS RX7 74 yX7_isYear := ⟨zG_in 299 (by decide +kernel) rfl, zG_in 300 (by decide +kernel) rfl⟩
theorem kf_X7_84 : zF RX7 84 4 4 := ⟨RX4, TX4, 5, tyX4, rfl, rfl, by decide, zu_4, zG_in 83 (by decide +kernel) rfl, rfl, tyX4_ok, nmX4, fun _ => ⟨rfl, rfl⟩, fun h => absurd h (by decide)⟩
theorem kf_X7_92 : zF RX7 92 1 0 := ⟨RX1, TX1, 4, tyX1, rfl, rfl, by decide, zu_1, zG_in 32 (by decide +kernel) rfl, rfl, tyX1_ok, nmX1, fun h => absurd h (by decide), fun _ => ⟨rfl, fun a => ⟨rfl, rfl⟩⟩⟩
theorem kf_X7_96 : zF RX7 96 1 1 := ⟨RX1, TX1, 4, tyX1, rfl, rfl, by decide, zu_1, zG_in 34 (by decide +kernel) rfl, rfl, tyX1_ok, nmX1, fun h => absurd h (by decide), fun _ => ⟨rfl, fun a => ⟨rfl, rfl⟩⟩⟩
theorem kf_X7_99 : zF RX7 99 1 2 := ⟨RX1, TX1, 4, tyX1, rfl, rfl, by decide, zu_1, zG_in 36 (by decide +kernel) rfl, rfl, tyX1_ok, nmX1, fun h => absurd h (by decide), fun _ => ⟨rfl, fun a => ⟨rfl, rfl⟩⟩⟩
theorem kf_X7_102 : zF RX7 102 1 3 := ⟨RX1, TX1, 4, tyX1, rfl, rfl, by decide, zu_1, zG_in 38 (by decide +kernel) rfl, rfl, tyX1_ok, nmX1, fun h => absurd h (by decide), fun _ => ⟨rfl, fun a => ⟨rfl, rfl⟩⟩⟩
theorem kl_L_19 : zLV RL 19 yX7_pilot := ⟨zG_in 337 (by decide +kernel) rfl, zG_in 338 (by decide +kernel) rfl, zG_in 339 (by decide +kernel) rfl⟩
theorem kf_X7_107 : zF RX7 107 5 2 := ⟨RX5, TX5, 3, tyX5, rfl, rfl, by decide, zu_5, zG_in 60 (by decide +kernel) rfl, rfl, tyX5_ok, nmX5, fun _ => ⟨rfl, rfl⟩, fun h => absurd h (by decide)⟩
theorem kf_X7_110 : zF RX7 110 5 0 := ⟨RX5, TX5, 3, tyX5, rfl, rfl, by decide, zu_5, zG_in 56 (by decide +kernel) rfl, rfl, tyX5_ok, nmX5, fun h => absurd h (by decide), fun _ => ⟨rfl, fun a => ⟨rfl, rfl⟩⟩⟩
theorem kf_X7_113 : zF RX7 113 5 1 := ⟨RX5, TX5, 3, tyX5, rfl, rfl, by decide, zu_5, zG_in 58 (by decide +kernel) rfl, rfl, tyX5_ok, nmX5, fun h => absurd h (by decide), fun _ => ⟨rfl, fun a => ⟨rfl, rfl⟩⟩⟩
theorem kl_L_23 : zLV RL 23 yX7_report := ⟨zG_in 346 (by decide +kernel) rfl, zG_in 347 (by decide +kernel) rfl, zG_in 348 (by decide +kernel) rfl⟩
theorem kf_X7_125 : zF RX7 125 4 0 := ⟨RX4, TX4, 5, tyX4, rfl, rfl, by decide, zu_4, zG_in 75 (by decide +kernel) rfl, rfl, tyX4_ok, nmX4, fun h => absurd h (by decide), fun _ => ⟨rfl, fun a => ⟨rfl, rfl⟩⟩⟩
theorem kf_X7_128 : zF RX7 128 4 1 := ⟨RX4, TX4, 5, tyX4, rfl, rfl, by decide, zu_4, zG_in 77 (by decide +kernel) rfl, rfl, tyX4_ok, nmX4, fun h => absurd h (by decide), fun _ => ⟨rfl, fun a => ⟨rfl, rfl⟩⟩⟩
theorem kf_X7_131 : zF RX7 131 4 2 := ⟨RX4, TX4, 5, tyX4, rfl, rfl, by decide, zu_4, zG_in 79 (by decide +kernel) rfl, rfl, tyX4_ok, nmX4, fun h => absurd h (by decide), fun _ => ⟨rfl, fun a => ⟨rfl, rfl⟩⟩⟩
theorem kf_X7_132 : zF RX7 132 4 3 := ⟨RX4, TX4, 5, tyX4, rfl, rfl, by decide, zu_4, zG_in 81 (by decide +kernel) rfl, rfl, tyX4_ok, nmX4, fun h => absurd h (by decide), fun _ => ⟨rfl, fun a => ⟨rfl, rfl⟩⟩⟩
theorem kl_L_27 : zLV RL 27 yX7_chart := ⟨zG_in 356 (by decide +kernel) rfl, zG_in 357 (by decide +kernel) rfl, zG_in 358 (by decide +kernel) rfl⟩
theorem kl_X7_135 : zLV RX7 135 yX7_needRoomForChart := ⟨zG_in 361 (by decide +kernel) rfl, zG_in 363 (by decide +kernel) rfl, zG_sel 1 (by decide +kernel) rfl⟩
theorem kf_X7_138 : zF RX7 138 0 0 := ⟨RX0, TX0, 7, tyX0, rfl, rfl, by decide, zu_0, zG_in 158 (by decide +kernel) rfl, rfl, tyX0_ok, nmX0, fun _ => ⟨rfl, rfl⟩, fun h => absurd h (by decide)⟩
theorem kl_X7_140 : zLV RX7 140 yX0_forget := ⟨zG_in 366 (by decide +kernel) rfl, zG_in 367 (by decide +kernel) rfl, zG_in 368 (by decide +kernel) rfl⟩
theorem kf_X7_143 : zF RX7 143 0 3 := ⟨RX0, TX0, 7, tyX0, rfl, rfl, by decide, zu_0, zG_in 164 (by decide +kernel) rfl, rfl, tyX0_ok, nmX0, fun h => absurd h (by decide), fun _ => ⟨rfl, fun a => ⟨rfl, rfl⟩⟩⟩
theorem kf_X7_144 : zF RX7 144 0 5 := ⟨RX0, TX0, 7, tyX0, rfl, rfl, by decide, zu_0, zG_in 168 (by decide +kernel) rfl, rfl, tyX0_ok, nmX0, fun h => absurd h (by decide), fun _ => ⟨rfl, fun a => ⟨rfl, rfl⟩⟩⟩
theorem kl_X7_147 : zLV RX7 147 yX0_put := ⟨zG_in 375 (by decide +kernel) rfl, zG_in 372 (by decide +kernel) rfl, zG_in 373 (by decide +kernel) rfl⟩
theorem kl_X7_151 : zLV RX7 151 yX7_layOut := ⟨zG_in 376 (by decide +kernel) rfl, zG_in 378 (by decide +kernel) rfl, zG_sel 2 (by decide +kernel) rfl⟩
theorem kc_X0_35 : Jvm.Cond.constant RX0 35 (100000) ∈ zG := zG_in 370 (by decide +kernel) rfl
theorem kl_X0_36 : zLV RX0 36 yX0_put := ⟨zG_in 371 (by decide +kernel) rfl, zG_in 372 (by decide +kernel) rfl, zG_in 373 (by decide +kernel) rfl⟩
theorem kl_X7_311 : zLV RX7 311 yX7_gather := ⟨zG_in 380 (by decide +kernel) rfl, zG_in 382 (by decide +kernel) rfl, zG_sel 3 (by decide +kernel) rfl⟩
theorem kl_X7_314 : zLV RX7 314 yX6_settle := ⟨zG_in 396 (by decide +kernel) rfl, zG_in 397 (by decide +kernel) rfl, zG_in 398 (by decide +kernel) rfl⟩
theorem kl_X7_318 : zLV RX7 318 yX6_begin := ⟨zG_in 384 (by decide +kernel) rfl, zG_in 385 (by decide +kernel) rfl, zG_in 386 (by decide +kernel) rfl⟩
theorem kl_X7_179 : zLV RX7 179 yX0_knows := ⟨zG_in 388 (by decide +kernel) rfl, zG_in 389 (by decide +kernel) rfl, zG_in 390 (by decide +kernel) rfl⟩
theorem kf_X7_182 : zF RX7 182 0 1 := ⟨RX0, TX0, 7, tyX0, rfl, rfl, by decide, zu_0, zG_in 160 (by decide +kernel) rfl, rfl, tyX0_ok, nmX0, fun h => absurd h (by decide), fun _ => ⟨rfl, fun a => ⟨rfl, rfl⟩⟩⟩
theorem kf_X7_187 : zF RX7 187 0 2 := ⟨RX0, TX0, 7, tyX0, rfl, rfl, by decide, zu_0, zG_in 162 (by decide +kernel) rfl, rfl, tyX0_ok, nmX0, fun h => absurd h (by decide), fun _ => ⟨rfl, fun a => ⟨rfl, rfl⟩⟩⟩
theorem kl_X7_321 : zLV RX7 321 yX6_give := ⟨zG_in 392 (by decide +kernel) rfl, zG_in 393 (by decide +kernel) rfl, zG_in 394 (by decide +kernel) rfl⟩
theorem kl_X6_21 : zLV RX6 21 yX0_put := ⟨zG_in 400 (by decide +kernel) rfl, zG_in 372 (by decide +kernel) rfl, zG_in 373 (by decide +kernel) rfl⟩
theorem kl_L_30 : zLV RL 30 yX7_hand := ⟨zG_in 404 (by decide +kernel) rfl, zG_in 405 (by decide +kernel) rfl, zG_in 406 (by decide +kernel) rfl⟩
theorem kl_X7_155 : zLV RX7 155 yX7_copyistOf := ⟨zG_in 408 (by decide +kernel) rfl, zG_in 410 (by decide +kernel) rfl, zG_sel 4 (by decide +kernel) rfl⟩
theorem kf_X7_161 : zF RX7 161 2 0 := ⟨RX2, TX2, 2, tyX2, rfl, rfl, by decide, zu_2, zG_in 144 (by decide +kernel) rfl, rfl, tyX2_ok, nmX2, fun _ => ⟨rfl, rfl⟩, fun h => absurd h (by decide)⟩
theorem kl_L_33 : zLV RL 33 yX7_reads := ⟨zG_in 417 (by decide +kernel) rfl, zG_in 418 (by decide +kernel) rfl, zG_in 419 (by decide +kernel) rfl⟩
theorem kf_X7_166 : zF RX7 166 2 1 := ⟨RX2, TX2, 2, tyX2, rfl, rfl, by decide, zu_2, zG_in 146 (by decide +kernel) rfl, rfl, tyX2_ok, nmX2, fun h => absurd h (by decide), fun _ => ⟨rfl, fun a => ⟨rfl, rfl⟩⟩⟩
theorem kl_L_37 : zLV RL 37 yX7_copy := ⟨zG_in 425 (by decide +kernel) rfl, zG_in 426 (by decide +kernel) rfl, zG_in 427 (by decide +kernel) rfl⟩
theorem kl_X7_169 : zLV RX7 169 yX7_chartOf := ⟨zG_in 429 (by decide +kernel) rfl, zG_in 431 (by decide +kernel) rfl, zG_sel 5 (by decide +kernel) rfl⟩
theorem kl_X7_175 : zLV RX7 175 yX2_readingOf := ⟨zG_in 435 (by decide +kernel) rfl, zG_in 436 (by decide +kernel) rfl, zG_in 437 (by decide +kernel) rfl⟩
theorem kl_X7_183 : zLS RX7 183 yX7_drawn := ⟨zG_in 440 (by decide +kernel) rfl, zG_in 441 (by decide +kernel) rfl⟩
theorem kl_X7_188 : zLV RX7 188 yX0_takeFrame := ⟨zG_in 443 (by decide +kernel) rfl, zG_in 444 (by decide +kernel) rfl, zG_in 445 (by decide +kernel) rfl⟩
theorem kl_X2_19 : zLSN RX2 19 yX7_isName := ⟨⟨"PortolanHall", by decide +kernel⟩, zG_in 297 (by decide +kernel) rfl⟩
theorem kl_L_41 : zLV RL 41 yX7_paste := ⟨zG_in 450 (by decide +kernel) rfl, zG_in 451 (by decide +kernel) rfl, zG_in 452 (by decide +kernel) rfl⟩
theorem kl_X7_196 : zLV RX7 196 yX7_leadsBack := ⟨zG_in 456 (by decide +kernel) rfl, zG_in 458 (by decide +kernel) rfl, zG_sel 6 (by decide +kernel) rfl⟩
theorem kl_X7_202 : zLV RX7 202 yX0_fitsMoved := ⟨zG_in 465 (by decide +kernel) rfl, zG_in 466 (by decide +kernel) rfl, zG_in 467 (by decide +kernel) rfl⟩
theorem kl_X7_207 : zLV RX7 207 yX0_knownFrom := ⟨zG_in 475 (by decide +kernel) rfl, zG_in 476 (by decide +kernel) rfl, zG_in 477 (by decide +kernel) rfl⟩
theorem kl_X7_256 : zLV RX7 256 yX7_sourceOf := ⟨zG_in 460 (by decide +kernel) rfl, zG_in 462 (by decide +kernel) rfl, zG_sel 7 (by decide +kernel) rfl⟩
theorem kf_X7_244 : zF RX7 244 0 4 := ⟨RX0, TX0, 7, tyX0, rfl, rfl, by decide, zu_0, zG_in 166 (by decide +kernel) rfl, rfl, tyX0_ok, nmX0, fun h => absurd h (by decide), fun _ => ⟨rfl, fun a => ⟨rfl, rfl⟩⟩⟩
theorem kl_X0_40 : zLV RX0 40 yX0_knows := ⟨zG_in 469 (by decide +kernel) rfl, zG_in 389 (by decide +kernel) rfl, zG_in 390 (by decide +kernel) rfl⟩
theorem kl_X0_48 : zLS RX0 48 yX0_isPlace := ⟨zG_in 470 (by decide +kernel) rfl, zG_in 471 (by decide +kernel) rfl⟩
theorem kl_X0_63 : zLSN RX0 63 yX7_isWithin := ⟨⟨"PortolanHall", by decide +kernel⟩, zG_in 294 (by decide +kernel) rfl⟩
theorem kl_L_44 : zLV RL 44 yX7_island := ⟨zG_in 482 (by decide +kernel) rfl, zG_in 483 (by decide +kernel) rfl, zG_in 484 (by decide +kernel) rfl⟩
theorem kf_X7_213 : zF RX7 213 3 3 := ⟨RX3, TX3, 4, tyX3, rfl, rfl, by decide, zu_3, zG_in 128 (by decide +kernel) rfl, rfl, tyX3_ok, nmX3, fun _ => ⟨rfl, rfl⟩, fun h => absurd h (by decide)⟩
theorem kf_X7_216 : zF RX7 216 3 0 := ⟨RX3, TX3, 4, tyX3, rfl, rfl, by decide, zu_3, zG_in 122 (by decide +kernel) rfl, rfl, tyX3_ok, nmX3, fun h => absurd h (by decide), fun _ => ⟨rfl, fun a => ⟨rfl, rfl⟩⟩⟩
theorem kf_X7_217 : zF RX7 217 3 1 := ⟨RX3, TX3, 4, tyX3, rfl, rfl, by decide, zu_3, zG_in 124 (by decide +kernel) rfl, rfl, tyX3_ok, nmX3, fun h => absurd h (by decide), fun _ => ⟨rfl, fun a => ⟨rfl, rfl⟩⟩⟩
theorem kf_X7_218 : zF RX7 218 3 2 := ⟨RX3, TX3, 4, tyX3, rfl, rfl, by decide, zu_3, zG_in 126 (by decide +kernel) rfl, rfl, tyX3_ok, nmX3, fun h => absurd h (by decide), fun _ => ⟨rfl, fun a => ⟨rfl, rfl⟩⟩⟩
theorem kf_X7_221 : zF RX7 221 0 6 := ⟨RX0, TX0, 7, tyX0, rfl, rfl, by decide, zu_0, zG_in 170 (by decide +kernel) rfl, rfl, tyX0_ok, nmX0, fun h => absurd h (by decide), fun _ => ⟨rfl, fun a => ⟨rfl, rfl⟩⟩⟩
theorem kl_L_47 : zLV RL 47 yX7_exchange := ⟨zG_in 491 (by decide +kernel) rfl, zG_in 492 (by decide +kernel) rfl, zG_in 493 (by decide +kernel) rfl⟩
theorem kl_L_50 : zLV RL 50 yX7_shrink := ⟨zG_in 498 (by decide +kernel) rfl, zG_in 499 (by decide +kernel) rfl, zG_in 500 (by decide +kernel) rfl⟩
theorem kl_X7_225 : zLS RX7 225 yX7_needBasin := ⟨zG_in 502 (by decide +kernel) rfl, zG_in 503 (by decide +kernel) rfl⟩
theorem kl_X7_230 : zLV RX7 230 yX0_fitsShrunk := ⟨zG_in 507 (by decide +kernel) rfl, zG_in 508 (by decide +kernel) rfl, zG_in 509 (by decide +kernel) rfl⟩
theorem kl_X7_233 : zLV RX7 233 yX0_shrinkPlaces := ⟨zG_in 521 (by decide +kernel) rfl, zG_in 522 (by decide +kernel) rfl, zG_in 523 (by decide +kernel) rfl⟩
theorem kl_X0_52 : zLSN RX0 52 yX7_firstOf := ⟨⟨"PortolanHall", by decide +kernel⟩, zG_in 512 (by decide +kernel) rfl⟩
theorem kl_X0_56 : zLSN RX0 56 yX7_lastOf := ⟨⟨"PortolanHall", by decide +kernel⟩, zG_in 515 (by decide +kernel) rfl⟩
theorem kl_X0_59 : zLS RX0 59 yX0_shrunk := ⟨zG_in 518 (by decide +kernel) rfl, zG_in 519 (by decide +kernel) rfl⟩
theorem kl_X7_284 : zLS RX7 284 yX7_firstOf := ⟨zG_in 517 (by decide +kernel) rfl, zG_in 512 (by decide +kernel) rfl⟩
theorem kl_L_54 : zLV RL 54 yX7_lose := ⟨zG_in 528 (by decide +kernel) rfl, zG_in 529 (by decide +kernel) rfl, zG_in 530 (by decide +kernel) rfl⟩
theorem kl_L_57 : zLV RL 57 yX7_paint := ⟨zG_in 536 (by decide +kernel) rfl, zG_in 537 (by decide +kernel) rfl, zG_in 538 (by decide +kernel) rfl⟩
theorem kl_X7_239 : zLV RX7 239 yX7_needIsland := ⟨zG_in 540 (by decide +kernel) rfl, zG_in 542 (by decide +kernel) rfl, zG_sel 8 (by decide +kernel) rfl⟩
theorem kl_L_61 : zLV RL 61 yX7_told := ⟨zG_in 548 (by decide +kernel) rfl, zG_in 549 (by decide +kernel) rfl, zG_in 550 (by decide +kernel) rfl⟩
theorem kl_L_65 : zLV RL 65 yX7_at := ⟨zG_in 556 (by decide +kernel) rfl, zG_in 557 (by decide +kernel) rfl, zG_in 558 (by decide +kernel) rfl⟩
theorem kl_X7_247 : zLV RX7 247 yX7_errorOf := ⟨zG_in 560 (by decide +kernel) rfl, zG_in 562 (by decide +kernel) rfl, zG_sel 9 (by decide +kernel) rfl⟩
theorem kc_X7_251 : Jvm.Cond.constant RX7 251 (100000) ∈ zG := zG_in 564 (by decide +kernel) rfl
theorem kl_L_68 : zLV RL 68 yX7_chain := ⟨zG_in 569 (by decide +kernel) rfl, zG_in 570 (by decide +kernel) rfl, zG_in 571 (by decide +kernel) rfl⟩
theorem kl_L_71 : zLV RL 71 yX7_of := ⟨zG_in 577 (by decide +kernel) rfl, zG_in 578 (by decide +kernel) rfl, zG_in 579 (by decide +kernel) rfl⟩
theorem kl_X7_259 : zLV RX7 259 yX0_islandCount := ⟨zG_in 581 (by decide +kernel) rfl, zG_in 582 (by decide +kernel) rfl, zG_in 583 (by decide +kernel) rfl⟩
theorem kl_X7_263 : zLV RX7 263 yX7_falseNames := ⟨zG_in 589 (by decide +kernel) rfl, zG_in 591 (by decide +kernel) rfl, zG_sel 10 (by decide +kernel) rfl⟩
theorem kl_X0_44 : zLV RX0 44 yX0_islandsWith := ⟨zG_in 585 (by decide +kernel) rfl, zG_in 586 (by decide +kernel) rfl, zG_in 587 (by decide +kernel) rfl⟩
theorem kl_X7_290 : zLV RX7 290 yX7_hasTrueName := ⟨zG_in 593 (by decide +kernel) rfl, zG_in 595 (by decide +kernel) rfl, zG_sel 11 (by decide +kernel) rfl⟩
theorem kl_L_74 : zLV RL 74 yX7_ofIsland := ⟨zG_in 600 (by decide +kernel) rfl, zG_in 601 (by decide +kernel) rfl, zG_in 602 (by decide +kernel) rfl⟩
theorem kl_X7_267 : zLV RX7 267 yX7_chartsWith := ⟨zG_in 604 (by decide +kernel) rfl, zG_in 606 (by decide +kernel) rfl, zG_sel 12 (by decide +kernel) rfl⟩
theorem kl_X7_270 : zLV RX7 270 yX7_highestChartWith := ⟨zG_in 608 (by decide +kernel) rfl, zG_in 610 (by decide +kernel) rfl, zG_sel 13 (by decide +kernel) rfl⟩
theorem kl_L_77 : zLV RL 77 yX7_fit := ⟨zG_in 615 (by decide +kernel) rfl, zG_in 616 (by decide +kernel) rfl, zG_in 617 (by decide +kernel) rfl⟩
theorem kl_X7_273 : zLV RX7 273 yX7_shift := ⟨zG_in 619 (by decide +kernel) rfl, zG_in 621 (by decide +kernel) rfl, zG_sel 14 (by decide +kernel) rfl⟩
theorem kl_X7_276 : zLV RX7 276 yX7_residual := ⟨zG_in 624 (by decide +kernel) rfl, zG_in 626 (by decide +kernel) rfl, zG_sel 15 (by decide +kernel) rfl⟩
theorem kl_X7_287 : zLS RX7 287 yX7_lastOf := ⟨zG_in 623 (by decide +kernel) rfl, zG_in 515 (by decide +kernel) rfl⟩
theorem kl_X7_325 : Cond.methodLink RX7 325 Lib.Math.abs.name ∈ zG := zG_in 628 (by decide +kernel) rfl
theorem kl_L_80 : zLV RL 80 yX7_shared := ⟨zG_in 634 (by decide +kernel) rfl, zG_in 635 (by decide +kernel) rfl, zG_in 636 (by decide +kernel) rfl⟩
theorem kl_X7_280 : zLV RX7 280 yX7_sharedBy := ⟨zG_in 638 (by decide +kernel) rfl, zG_in 640 (by decide +kernel) rfl, zG_sel 16 (by decide +kernel) rfl⟩
theorem kl_X7_328 : zLV RX7 328 yX0_islandsWith := ⟨zG_in 642 (by decide +kernel) rfl, zG_in 586 (by decide +kernel) rfl, zG_in 587 (by decide +kernel) rfl⟩
theorem kl_X7_331 : zLV RX7 331 yX7_shareError := ⟨zG_in 643 (by decide +kernel) rfl, zG_in 645 (by decide +kernel) rfl, zG_sel 17 (by decide +kernel) rfl⟩
theorem kl_L_83 : zLV RL 83 yX7_kin := ⟨zG_in 650 (by decide +kernel) rfl, zG_in 651 (by decide +kernel) rfl, zG_in 652 (by decide +kernel) rfl⟩
theorem kl_L_86 : zLV RL 86 yX7_date := ⟨zG_in 657 (by decide +kernel) rfl, zG_in 658 (by decide +kernel) rfl, zG_in 659 (by decide +kernel) rfl⟩
theorem kl_X7_294 : Cond.methodLink RX7 294 Lib.Math.max.name ∈ zG := zG_in 661 (by decide +kernel) rfl
theorem kl_X8_1 : Cond.methodLink RX8 1 objectInit ∈ zG := zG_in 669 (by decide +kernel) rfl
theorem kf_X8_7 : zF RX8 7 8 1 := ⟨RX8, TX8, 34, tyX8, rfl, rfl, by decide, zu_8, zG_in 671 (by decide +kernel) rfl, rfl, tyX8_ok, nmX8, fun h => absurd h (by decide), fun _ => ⟨rfl, fun a => ⟨rfl, rfl⟩⟩⟩
theorem kf_X8_13 : zF RX8 13 8 2 := ⟨RX8, TX8, 34, tyX8, rfl, rfl, by decide, zu_8, zG_in 672 (by decide +kernel) rfl, rfl, tyX8_ok, nmX8, fun h => absurd h (by decide), fun _ => ⟨rfl, fun a => ⟨rfl, rfl⟩⟩⟩
theorem kf_X8_16 : zF RX8 16 8 3 := ⟨RX8, TX8, 34, tyX8, rfl, rfl, by decide, zu_8, zG_in 673 (by decide +kernel) rfl, rfl, tyX8_ok, nmX8, fun h => absurd h (by decide), fun _ => ⟨rfl, fun a => ⟨rfl, rfl⟩⟩⟩
theorem kf_X8_19 : zF RX8 19 8 4 := ⟨RX8, TX8, 34, tyX8, rfl, rfl, by decide, zu_8, zG_in 674 (by decide +kernel) rfl, rfl, tyX8_ok, nmX8, fun h => absurd h (by decide), fun _ => ⟨rfl, fun a => ⟨rfl, rfl⟩⟩⟩
theorem kf_X8_22 : zF RX8 22 8 6 := ⟨RX8, TX8, 34, tyX8, rfl, rfl, by decide, zu_8, zG_in 676 (by decide +kernel) rfl, rfl, tyX8_ok, nmX8, fun h => absurd h (by decide), fun _ => ⟨rfl, fun a => ⟨rfl, rfl⟩⟩⟩
theorem kf_X8_25 : zF RX8 25 8 7 := ⟨RX8, TX8, 34, tyX8, rfl, rfl, by decide, zu_8, zG_in 677 (by decide +kernel) rfl, rfl, tyX8_ok, nmX8, fun h => absurd h (by decide), fun _ => ⟨rfl, fun a => ⟨rfl, rfl⟩⟩⟩
theorem kf_X8_28 : zF RX8 28 8 9 := ⟨RX8, TX8, 34, tyX8, rfl, rfl, by decide, zu_8, zG_in 679 (by decide +kernel) rfl, rfl, tyX8_ok, nmX8, fun h => absurd h (by decide), fun _ => ⟨rfl, fun a => ⟨rfl, rfl⟩⟩⟩
theorem kf_X8_31 : zF RX8 31 8 10 := ⟨RX8, TX8, 34, tyX8, rfl, rfl, by decide, zu_8, zG_in 680 (by decide +kernel) rfl, rfl, tyX8_ok, nmX8, fun h => absurd h (by decide), fun _ => ⟨rfl, fun a => ⟨rfl, rfl⟩⟩⟩
theorem kf_X8_34 : zF RX8 34 8 11 := ⟨RX8, TX8, 34, tyX8, rfl, rfl, by decide, zu_8, zG_in 681 (by decide +kernel) rfl, rfl, tyX8_ok, nmX8, fun h => absurd h (by decide), fun _ => ⟨rfl, fun a => ⟨rfl, rfl⟩⟩⟩
theorem kf_X8_37 : zF RX8 37 8 12 := ⟨RX8, TX8, 34, tyX8, rfl, rfl, by decide, zu_8, zG_in 682 (by decide +kernel) rfl, rfl, tyX8_ok, nmX8, fun h => absurd h (by decide), fun _ => ⟨rfl, fun a => ⟨rfl, rfl⟩⟩⟩
theorem kf_X8_40 : zF RX8 40 8 14 := ⟨RX8, TX8, 34, tyX8, rfl, rfl, by decide, zu_8, zG_in 684 (by decide +kernel) rfl, rfl, tyX8_ok, nmX8, fun h => absurd h (by decide), fun _ => ⟨rfl, fun a => ⟨rfl, rfl⟩⟩⟩
theorem kf_X8_43 : zF RX8 43 8 15 := ⟨RX8, TX8, 34, tyX8, rfl, rfl, by decide, zu_8, zG_in 685 (by decide +kernel) rfl, rfl, tyX8_ok, nmX8, fun h => absurd h (by decide), fun _ => ⟨rfl, fun a => ⟨rfl, rfl⟩⟩⟩
theorem kf_X8_46 : zF RX8 46 8 16 := ⟨RX8, TX8, 34, tyX8, rfl, rfl, by decide, zu_8, zG_in 686 (by decide +kernel) rfl, rfl, tyX8_ok, nmX8, fun h => absurd h (by decide), fun _ => ⟨rfl, fun a => ⟨rfl, rfl⟩⟩⟩
theorem kf_X8_50 : zF RX8 50 8 17 := ⟨RX8, TX8, 34, tyX8, rfl, rfl, by decide, zu_8, zG_in 687 (by decide +kernel) rfl, rfl, tyX8_ok, nmX8, fun h => absurd h (by decide), fun _ => ⟨rfl, fun a => ⟨rfl, rfl⟩⟩⟩
theorem kf_X8_53 : zF RX8 53 8 18 := ⟨RX8, TX8, 34, tyX8, rfl, rfl, by decide, zu_8, zG_in 688 (by decide +kernel) rfl, rfl, tyX8_ok, nmX8, fun h => absurd h (by decide), fun _ => ⟨rfl, fun a => ⟨rfl, rfl⟩⟩⟩
theorem kf_X8_56 : zF RX8 56 8 19 := ⟨RX8, TX8, 34, tyX8, rfl, rfl, by decide, zu_8, zG_in 689 (by decide +kernel) rfl, rfl, tyX8_ok, nmX8, fun h => absurd h (by decide), fun _ => ⟨rfl, fun a => ⟨rfl, rfl⟩⟩⟩
theorem kf_X8_59 : zF RX8 59 8 20 := ⟨RX8, TX8, 34, tyX8, rfl, rfl, by decide, zu_8, zG_in 690 (by decide +kernel) rfl, rfl, tyX8_ok, nmX8, fun h => absurd h (by decide), fun _ => ⟨rfl, fun a => ⟨rfl, rfl⟩⟩⟩
theorem kf_X8_62 : zF RX8 62 8 21 := ⟨RX8, TX8, 34, tyX8, rfl, rfl, by decide, zu_8, zG_in 691 (by decide +kernel) rfl, rfl, tyX8_ok, nmX8, fun h => absurd h (by decide), fun _ => ⟨rfl, fun a => ⟨rfl, rfl⟩⟩⟩
theorem kf_X8_65 : zF RX8 65 8 22 := ⟨RX8, TX8, 34, tyX8, rfl, rfl, by decide, zu_8, zG_in 692 (by decide +kernel) rfl, rfl, tyX8_ok, nmX8, fun h => absurd h (by decide), fun _ => ⟨rfl, fun a => ⟨rfl, rfl⟩⟩⟩
theorem kf_X8_68 : zF RX8 68 8 24 := ⟨RX8, TX8, 34, tyX8, rfl, rfl, by decide, zu_8, zG_in 694 (by decide +kernel) rfl, rfl, tyX8_ok, nmX8, fun h => absurd h (by decide), fun _ => ⟨rfl, fun a => ⟨rfl, rfl⟩⟩⟩
theorem kf_X8_71 : zF RX8 71 8 25 := ⟨RX8, TX8, 34, tyX8, rfl, rfl, by decide, zu_8, zG_in 695 (by decide +kernel) rfl, rfl, tyX8_ok, nmX8, fun h => absurd h (by decide), fun _ => ⟨rfl, fun a => ⟨rfl, rfl⟩⟩⟩
theorem kf_X8_74 : zF RX8 74 8 26 := ⟨RX8, TX8, 34, tyX8, rfl, rfl, by decide, zu_8, zG_in 696 (by decide +kernel) rfl, rfl, tyX8_ok, nmX8, fun h => absurd h (by decide), fun _ => ⟨rfl, fun a => ⟨rfl, rfl⟩⟩⟩
theorem kf_X8_77 : zF RX8 77 8 27 := ⟨RX8, TX8, 34, tyX8, rfl, rfl, by decide, zu_8, zG_in 697 (by decide +kernel) rfl, rfl, tyX8_ok, nmX8, fun h => absurd h (by decide), fun _ => ⟨rfl, fun a => ⟨rfl, rfl⟩⟩⟩
theorem kf_X8_80 : zF RX8 80 8 28 := ⟨RX8, TX8, 34, tyX8, rfl, rfl, by decide, zu_8, zG_in 698 (by decide +kernel) rfl, rfl, tyX8_ok, nmX8, fun h => absurd h (by decide), fun _ => ⟨rfl, fun a => ⟨rfl, rfl⟩⟩⟩
theorem kf_X8_83 : zF RX8 83 8 29 := ⟨RX8, TX8, 34, tyX8, rfl, rfl, by decide, zu_8, zG_in 699 (by decide +kernel) rfl, rfl, tyX8_ok, nmX8, fun h => absurd h (by decide), fun _ => ⟨rfl, fun a => ⟨rfl, rfl⟩⟩⟩
theorem kf_X8_86 : zF RX8 86 8 30 := ⟨RX8, TX8, 34, tyX8, rfl, rfl, by decide, zu_8, zG_in 700 (by decide +kernel) rfl, rfl, tyX8_ok, nmX8, fun h => absurd h (by decide), fun _ => ⟨rfl, fun a => ⟨rfl, rfl⟩⟩⟩
theorem kf_X8_89 : zF RX8 89 8 31 := ⟨RX8, TX8, 34, tyX8, rfl, rfl, by decide, zu_8, zG_in 701 (by decide +kernel) rfl, rfl, tyX8_ok, nmX8, fun h => absurd h (by decide), fun _ => ⟨rfl, fun a => ⟨rfl, rfl⟩⟩⟩
theorem kf_X8_92 : zF RX8 92 8 0 := ⟨RX8, TX8, 34, tyX8, rfl, rfl, by decide, zu_8, zG_in 670 (by decide +kernel) rfl, rfl, tyX8_ok, nmX8, fun _ => ⟨rfl, rfl⟩, fun h => absurd h (by decide)⟩
theorem kl_X8_96 : zLS RX8 96 yX8_isIn := ⟨zG_in 781 (by decide +kernel) rfl, zG_in 782 (by decide +kernel) rfl⟩
theorem kl_X8_106 : zLS RX8 106 yX8_isName := ⟨zG_in 784 (by decide +kernel) rfl, zG_in 785 (by decide +kernel) rfl⟩
theorem kl_X8_110 : zLS RX8 110 yX8_isYear := ⟨zG_in 787 (by decide +kernel) rfl, zG_in 788 (by decide +kernel) rfl⟩
theorem kl_X8_113 : zLS RX8 113 yX8_isPoint := ⟨zG_in 790 (by decide +kernel) rfl, zG_in 791 (by decide +kernel) rfl⟩
theorem kf_X8_116 : zF RX8 116 8 8 := ⟨RX8, TX8, 34, tyX8, rfl, rfl, by decide, zu_8, zG_in 678 (by decide +kernel) rfl, rfl, tyX8_ok, nmX8, fun _ => ⟨rfl, rfl⟩, fun h => absurd h (by decide)⟩
theorem kf_X8_119 : zF RX8 119 8 5 := ⟨RX8, TX8, 34, tyX8, rfl, rfl, by decide, zu_8, zG_in 675 (by decide +kernel) rfl, rfl, tyX8_ok, nmX8, fun _ => ⟨rfl, rfl⟩, fun h => absurd h (by decide)⟩
theorem kf_X8_100 : zF RX8 100 8 13 := ⟨RX8, TX8, 34, tyX8, rfl, rfl, by decide, zu_8, zG_in 683 (by decide +kernel) rfl, rfl, tyX8_ok, nmX8, fun _ => ⟨rfl, rfl⟩, fun h => absurd h (by decide)⟩
theorem kl_X8_122 : zLS RX8 122 yX8_spot := ⟨zG_in 805 (by decide +kernel) rfl, zG_in 806 (by decide +kernel) rfl⟩
theorem kl_X8_130 : zLV RX8 130 yX8_rounds := ⟨zG_in 808 (by decide +kernel) rfl, zG_in 810 (by decide +kernel) rfl, zG_sel 18 (by decide +kernel) rfl⟩
theorem kl_X8_126 : zLV RX8 126 yX8_gives := ⟨zG_in 812 (by decide +kernel) rfl, zG_in 814 (by decide +kernel) rfl, zG_sel 19 (by decide +kernel) rfl⟩
theorem kl_X8_133 : zLS RX8 133 yX8_isCopyist := ⟨zG_in 820 (by decide +kernel) rfl, zG_in 821 (by decide +kernel) rfl⟩
theorem kl_X8_136 : zLV RX8 136 yX8_isChart := ⟨zG_in 831 (by decide +kernel) rfl, zG_in 833 (by decide +kernel) rfl, zG_sel 20 (by decide +kernel) rfl⟩
theorem kl_X8_139 : zLS RX8 139 yX8_made := ⟨zG_in 835 (by decide +kernel) rfl, zG_in 836 (by decide +kernel) rfl⟩
theorem kf_X8_103 : zF RX8 103 8 23 := ⟨RX8, TX8, 34, tyX8, rfl, rfl, by decide, zu_8, zG_in 693 (by decide +kernel) rfl, rfl, tyX8_ok, nmX8, fun _ => ⟨rfl, rfl⟩, fun h => absurd h (by decide)⟩
theorem kl_X8_146 : zLV RX8 146 yX8_isInChain := ⟨zG_in 842 (by decide +kernel) rfl, zG_in 844 (by decide +kernel) rfl, zG_sel 21 (by decide +kernel) rfl⟩
theorem kl_X8_149 : zLV RX8 149 yX8_isNear := ⟨zG_in 850 (by decide +kernel) rfl, zG_in 852 (by decide +kernel) rfl, zG_sel 23 (by decide +kernel) rfl⟩
theorem kl_X8_143 : zLV RX8 143 yX8_next := ⟨zG_in 846 (by decide +kernel) rfl, zG_in 848 (by decide +kernel) rfl, zG_sel 22 (by decide +kernel) rfl⟩
theorem kl_X8_152 : zLS RX8 152 yX8_isBasin := ⟨zG_in 866 (by decide +kernel) rfl, zG_in 867 (by decide +kernel) rfl⟩
theorem kl_X8_155 : zLV RX8 155 yX8_canShrink := ⟨zG_in 869 (by decide +kernel) rfl, zG_in 871 (by decide +kernel) rfl, zG_sel 24 (by decide +kernel) rfl⟩
theorem kl_X8_158 : zLV RX8 158 yX8_isIsland := ⟨zG_in 881 (by decide +kernel) rfl, zG_in 883 (by decide +kernel) rfl, zG_sel 25 (by decide +kernel) rfl⟩
theorem kc_X8_161 : Jvm.Cond.constant RX8 161 (100000) ∈ zG := zG_in 893 (by decide +kernel) rfl
theorem kl_X8_168 : zLV RX8 168 yX8_shifts := ⟨zG_in 910 (by decide +kernel) rfl, zG_in 912 (by decide +kernel) rfl, zG_sel 26 (by decide +kernel) rfl⟩
theorem kf_X8_162 : zF RX8 162 8 32 := ⟨RX8, TX8, 34, tyX8, rfl, rfl, by decide, zu_8, zG_in 702 (by decide +kernel) rfl, rfl, tyX8_ok, nmX8, fun _ => ⟨rfl, rfl⟩, fun h => absurd h (by decide)⟩
theorem kl_X8_172 : zLS RX8 172 yX8_size := ⟨zG_in 914 (by decide +kernel) rfl, zG_in 915 (by decide +kernel) rfl⟩
theorem kf_X8_165 : zF RX8 165 8 33 := ⟨RX8, TX8, 34, tyX8, rfl, rfl, by decide, zu_8, zG_in 703 (by decide +kernel) rfl, rfl, tyX8_ok, nmX8, fun _ => ⟨rfl, rfl⟩, fun h => absurd h (by decide)⟩
theorem kl_X8_176 : zLV RX8 176 yX8_sharedBy := ⟨zG_in 921 (by decide +kernel) rfl, zG_in 923 (by decide +kernel) rfl, zG_sel 27 (by decide +kernel) rfl⟩
theorem kn_L_8 : zN RL 8 7 := ⟨RX7, TX7, 8, tyX7, rfl, rfl, zu_7, zG_in 17 (by decide +kernel) rfl, zG_in 18 (by decide +kernel) rfl, zG_in 1 (by decide +kernel) rfl, tyX7_ok, by decide +kernel⟩
theorem kl_L_89 : zLI RL 89 yX7_init := ⟨zG_in 19 (by decide +kernel) rfl, zG_in 20 (by decide +kernel) rfl, rfl⟩
theorem kn_L_90 : zN RL 90 8 := ⟨RX8, TX8, 34, tyX8, rfl, rfl, zu_8, zG_in 664 (by decide +kernel) rfl, zG_in 665 (by decide +kernel) rfl, zG_in 9 (by decide +kernel) rfl, tyX8_ok, by decide +kernel⟩
theorem kl_L_92 : zLI RL 92 yX8_init := ⟨zG_in 666 (by decide +kernel) rfl, zG_in 667 (by decide +kernel) rfl, rfl⟩
theorem kl_L_93 : zLS RL 93 yL_coast := ⟨zG_in 212 (by decide +kernel) rfl, zG_in 213 (by decide +kernel) rfl⟩
theorem kl_L_98 : zLV RL 98 yX8_coast := ⟨zG_in 777 (by decide +kernel) rfl, zG_in 778 (by decide +kernel) rfl, zG_in 779 (by decide +kernel) rfl⟩
theorem kl_L_99 : zLV RL 99 yX8_thrown := ⟨zG_in 773 (by decide +kernel) rfl, zG_in 774 (by decide +kernel) rfl, zG_in 775 (by decide +kernel) rfl⟩
theorem kl_L_103 : zLS RL 103 yL_pilot := ⟨zG_in 334 (by decide +kernel) rfl, zG_in 335 (by decide +kernel) rfl⟩
theorem kl_L_106 : zLV RL 106 yX8_pilot := ⟨zG_in 793 (by decide +kernel) rfl, zG_in 794 (by decide +kernel) rfl, zG_in 795 (by decide +kernel) rfl⟩
theorem kl_L_107 : zLS RL 107 yL_report := ⟨zG_in 343 (by decide +kernel) rfl, zG_in 344 (by decide +kernel) rfl⟩
theorem kl_L_110 : zLV RL 110 yX8_report := ⟨zG_in 797 (by decide +kernel) rfl, zG_in 798 (by decide +kernel) rfl, zG_in 799 (by decide +kernel) rfl⟩
theorem kl_L_111 : zLS RL 111 yL_chart := ⟨zG_in 353 (by decide +kernel) rfl, zG_in 354 (by decide +kernel) rfl⟩
theorem kl_L_113 : zLV RL 113 yX8_chart := ⟨zG_in 801 (by decide +kernel) rfl, zG_in 802 (by decide +kernel) rfl, zG_in 803 (by decide +kernel) rfl⟩
theorem kl_L_114 : zLS RL 114 yL_hand := ⟨zG_in 401 (by decide +kernel) rfl, zG_in 402 (by decide +kernel) rfl⟩
theorem kl_L_116 : zLV RL 116 yX8_hand := ⟨zG_in 816 (by decide +kernel) rfl, zG_in 817 (by decide +kernel) rfl, zG_in 818 (by decide +kernel) rfl⟩
theorem kl_L_117 : zLS RL 117 yL_reads := ⟨zG_in 414 (by decide +kernel) rfl, zG_in 415 (by decide +kernel) rfl⟩
theorem kl_L_120 : zLV RL 120 yX8_reads := ⟨zG_in 823 (by decide +kernel) rfl, zG_in 824 (by decide +kernel) rfl, zG_in 825 (by decide +kernel) rfl⟩
theorem kl_L_121 : zLS RL 121 yL_copy := ⟨zG_in 422 (by decide +kernel) rfl, zG_in 423 (by decide +kernel) rfl⟩
theorem kl_L_124 : zLV RL 124 yX8_copy := ⟨zG_in 827 (by decide +kernel) rfl, zG_in 828 (by decide +kernel) rfl, zG_in 829 (by decide +kernel) rfl⟩
theorem kl_L_125 : zLS RL 125 yL_paste := ⟨zG_in 447 (by decide +kernel) rfl, zG_in 448 (by decide +kernel) rfl⟩
theorem kl_L_127 : zLV RL 127 yX8_paste := ⟨zG_in 838 (by decide +kernel) rfl, zG_in 839 (by decide +kernel) rfl, zG_in 840 (by decide +kernel) rfl⟩
theorem kl_L_128 : zLS RL 128 yL_island := ⟨zG_in 479 (by decide +kernel) rfl, zG_in 480 (by decide +kernel) rfl⟩
theorem kl_L_130 : zLV RL 130 yX8_island := ⟨zG_in 854 (by decide +kernel) rfl, zG_in 855 (by decide +kernel) rfl, zG_in 856 (by decide +kernel) rfl⟩
theorem kl_L_131 : zLS RL 131 yL_exchange := ⟨zG_in 488 (by decide +kernel) rfl, zG_in 489 (by decide +kernel) rfl⟩
theorem kl_L_133 : zLV RL 133 yX8_exchange := ⟨zG_in 858 (by decide +kernel) rfl, zG_in 859 (by decide +kernel) rfl, zG_in 860 (by decide +kernel) rfl⟩
theorem kl_L_134 : zLS RL 134 yL_shrink := ⟨zG_in 495 (by decide +kernel) rfl, zG_in 496 (by decide +kernel) rfl⟩
theorem kl_L_137 : zLV RL 137 yX8_shrink := ⟨zG_in 862 (by decide +kernel) rfl, zG_in 863 (by decide +kernel) rfl, zG_in 864 (by decide +kernel) rfl⟩
theorem kl_L_138 : zLS RL 138 yL_lose := ⟨zG_in 525 (by decide +kernel) rfl, zG_in 526 (by decide +kernel) rfl⟩
theorem kl_L_140 : zLV RL 140 yX8_lose := ⟨zG_in 873 (by decide +kernel) rfl, zG_in 874 (by decide +kernel) rfl, zG_in 875 (by decide +kernel) rfl⟩
theorem kl_L_141 : zLS RL 141 yL_paint := ⟨zG_in 533 (by decide +kernel) rfl, zG_in 534 (by decide +kernel) rfl⟩
theorem kl_L_143 : zLV RL 143 yX8_paint := ⟨zG_in 877 (by decide +kernel) rfl, zG_in 878 (by decide +kernel) rfl, zG_in 879 (by decide +kernel) rfl⟩
theorem kl_L_144 : zLS RL 144 yL_told := ⟨zG_in 545 (by decide +kernel) rfl, zG_in 546 (by decide +kernel) rfl⟩
theorem kl_L_147 : zLV RL 147 yX8_told := ⟨zG_in 885 (by decide +kernel) rfl, zG_in 886 (by decide +kernel) rfl, zG_in 887 (by decide +kernel) rfl⟩
theorem kl_L_148 : zLS RL 148 yL_at := ⟨zG_in 553 (by decide +kernel) rfl, zG_in 554 (by decide +kernel) rfl⟩
theorem kl_L_150 : zLV RL 150 yX8_at := ⟨zG_in 889 (by decide +kernel) rfl, zG_in 890 (by decide +kernel) rfl, zG_in 891 (by decide +kernel) rfl⟩
theorem kl_L_151 : zLS RL 151 yL_chain := ⟨zG_in 566 (by decide +kernel) rfl, zG_in 567 (by decide +kernel) rfl⟩
theorem kl_L_153 : zLV RL 153 yX8_chain := ⟨zG_in 894 (by decide +kernel) rfl, zG_in 895 (by decide +kernel) rfl, zG_in 896 (by decide +kernel) rfl⟩
theorem kl_L_154 : zLS RL 154 yL_of := ⟨zG_in 574 (by decide +kernel) rfl, zG_in 575 (by decide +kernel) rfl⟩
theorem kl_L_156 : zLV RL 156 yX8_of := ⟨zG_in 898 (by decide +kernel) rfl, zG_in 899 (by decide +kernel) rfl, zG_in 900 (by decide +kernel) rfl⟩
theorem kl_L_157 : zLS RL 157 yL_ofIsland := ⟨zG_in 597 (by decide +kernel) rfl, zG_in 598 (by decide +kernel) rfl⟩
theorem kl_L_159 : zLV RL 159 yX8_ofIsland := ⟨zG_in 902 (by decide +kernel) rfl, zG_in 903 (by decide +kernel) rfl, zG_in 904 (by decide +kernel) rfl⟩
theorem kl_L_160 : zLS RL 160 yL_fit := ⟨zG_in 612 (by decide +kernel) rfl, zG_in 613 (by decide +kernel) rfl⟩
theorem kl_L_162 : zLV RL 162 yX8_fit := ⟨zG_in 906 (by decide +kernel) rfl, zG_in 907 (by decide +kernel) rfl, zG_in 908 (by decide +kernel) rfl⟩
theorem kl_L_163 : zLS RL 163 yL_shared := ⟨zG_in 631 (by decide +kernel) rfl, zG_in 632 (by decide +kernel) rfl⟩
theorem kl_L_165 : zLV RL 165 yX8_shared := ⟨zG_in 917 (by decide +kernel) rfl, zG_in 918 (by decide +kernel) rfl, zG_in 919 (by decide +kernel) rfl⟩
theorem kl_L_166 : zLS RL 166 yL_kin := ⟨zG_in 647 (by decide +kernel) rfl, zG_in 648 (by decide +kernel) rfl⟩
theorem kl_L_168 : zLV RL 168 yX8_kin := ⟨zG_in 925 (by decide +kernel) rfl, zG_in 926 (by decide +kernel) rfl, zG_in 927 (by decide +kernel) rfl⟩
theorem kl_L_169 : zLS RL 169 yL_date := ⟨zG_in 654 (by decide +kernel) rfl, zG_in 655 (by decide +kernel) rfl⟩
theorem kl_L_171 : zLV RL 171 yX8_date := ⟨zG_in 929 (by decide +kernel) rfl, zG_in 930 (by decide +kernel) rfl, zG_in 931 (by decide +kernel) rfl⟩
theorem kt_77 : zTh RX7 77 81 "java/lang/IllegalArgumentException" := ⟨by decide +kernel, zG_in 302 (by decide +kernel) rfl, zG_in 14 (by decide +kernel) rfl, fun w h => List.mem_filter.mpr ⟨(by decide +kernel : ∀ w ∈ (vx_atS RX7 81 "java/lang/IllegalArgumentException" zNm).filter goodWord, w ∈ lw_tbl) w h, (List.mem_filter.mp h).2⟩, by decide +kernel, by decide, by decide +kernel, by decide +kernel⟩
theorem kt_87 : zTh RX7 87 91 "java/lang/IllegalStateException" := ⟨by decide +kernel, zG_in 318 (by decide +kernel) rfl, zG_in 15 (by decide +kernel) rfl, fun w h => List.mem_filter.mpr ⟨(by decide +kernel : ∀ w ∈ (vx_atS RX7 91 "java/lang/IllegalStateException" zNm).filter goodWord, w ∈ lw_tbl) w h, (List.mem_filter.mp h).2⟩, by decide +kernel, by decide, by decide +kernel, by decide +kernel⟩
theorem kt_116 : zTh RX7 116 120 "java/lang/IndexOutOfBoundsException" := ⟨by decide +kernel, zG_in 225 (by decide +kernel) rfl, zG_in 13 (by decide +kernel) rfl, fun w h => List.mem_filter.mpr ⟨(by decide +kernel : ∀ w ∈ (vx_atS RX7 120 "java/lang/IndexOutOfBoundsException" zNm).filter goodWord, w ∈ lw_tbl) w h, (List.mem_filter.mp h).2⟩, by decide +kernel, by decide, by decide +kernel, by decide +kernel⟩
theorem ka_int : Cond.arrayClass .int ∈ zG := zG_in 48 (by decide +kernel) rfl
theorem ka_boolean : Cond.arrayClass .boolean ∈ zG := zG_in 186 (by decide +kernel) rfl
theorem ka_long : Cond.arrayClass .long ∈ zG := zG_in 933 (by decide +kernel) rfl
theorem kob_i : Cond.instanceMethod objectInit ∈ zG := zG_in 23 (by decide +kernel) rfl
theorem kob_c : Cond.code objectInit ⟨#[0xb1]⟩ 1 none ∈ zG := zG_in 24 (by decide +kernel) rfl
theorem km_max_s : Cond.static Lib.Math.max.name ∈ zG := zG_in 662 (by decide +kernel) rfl
theorem km_max_c : Cond.code Lib.Math.max.name Lib.Math.max.code 2 (some .int) ∈ zG := zG_in 663 (by decide +kernel) rfl
theorem km_abs_s : Cond.static Lib.Math.abs.name ∈ zG := zG_in 629 (by decide +kernel) rfl
theorem km_abs_c : Cond.code Lib.Math.abs.name Lib.Math.abs.code 1 (some .int) ∈ zG := zG_in 630 (by decide +kernel) rfl
theorem km_i : Cond.initialized "java/lang/Math" ∈ zG := zG_in 16 (by decide +kernel) rfl
end
section
/-! the layout once all is made, and rows over it -/
def zκa : List (Nat × Nat) := [(9, 0), (0, 7), (0, 1), (1, 24), (1, 24), (1, 24), (1, 24), (0, 5), (1, 6), (1, 6), (0, 4), (1, 60), (1, 60), (1, 60), (1, 60), (0, 6), (1, 24), (1, 24), (1, 24), (5, 4), (4, 12), (0, 3), (1, 20), (1, 20), (1, 20)]
def zκc : List (Nat × Nat) := [(0, 0), (1, 24), (1, 24), (1, 24), (1, 24), (1, 3), (2, 20)]
def zκm : List (Nat × Nat) := [(0, 8), (1, 24), (1, 24), (1, 24), (1, 24), (1, 6), (1, 6), (1, 60), (1, 60), (1, 60), (1, 60), (1, 12), (1, 36), (2, 288), (1, 288), (1, 288), (1, 288), (1, 288), (1, 4), (1, 400), (1, 20), (1, 20), (1, 20), (2, 240), (2, 24), (1, 24), (1, 24), (1, 24), (3, 1)]
def zκ (k : Nat) : Nat × Nat := if k < 25 then zκa.getD k (9, 0) else if k < 33 then (if (k - 25) % 2 = 0 then (0, 2) else (1, 100)) else if k < 117 then zκc.getD ((k - 33) % 7) (9, 0) else zκm.getD (k - 117) (9, 0)
def zρm : List Nat := [0, 118, 119, 120, 121, 0, 122, 123, 0, 124, 125, 126, 127, 0, 128, 129, 130, 131, 132, 133, 134, 135, 136, 0, 137, 138, 139, 140, 141, 142, 143, 144, 0, 0]
def zρ (k j : Nat) : Nat :=
  if k = 1 then [2, 7, 10, 15, 19, 20, 21, 0].getD j 0 else if k = 2 then [3, 4, 5, 6].getD j 0 else if k = 7 then [8, 9, 0].getD j 0 else if k = 10 then [11, 12, 13, 14, 0].getD j 0 else if k = 15 then [16, 17, 18].getD j 0
  else if k = 19 then 25 + 2 * j else if k = 20 then 33 + 7 * j else if k = 21 then [22, 23, 24, 0].getD j 0 else if k = 117 then zρm.getD j 0
  else if k < 33 then (if j = 1 then k + 1 else 0) else if j = 0 then 0 else k + j
abbrev zm (μ : Nat → Nat → Int32) (g : Int64) : zM := (μ, zρ, zκ, 145, false, g)
theorem zl_ch {c : Nat} (h : c < 12) : zκ (33 + 7 * c) = (0, 0) ∧ zκ (34 + 7 * c) = (1, 24) ∧ zκ (35 + 7 * c) = (1, 24) ∧ zκ (36 + 7 * c) = (1, 24) ∧ zκ (37 + 7 * c) = (1, 24) ∧ zκ (38 + 7 * c) = (1, 3) ∧ zκ (39 + 7 * c) = (2, 20) :=
  (by decide : ∀ c, c < 12 → zκ (33 + 7 * c) = (0, 0) ∧ zκ (34 + 7 * c) = (1, 24) ∧ zκ (35 + 7 * c) = (1, 24) ∧ zκ (36 + 7 * c) = (1, 24) ∧ zκ (37 + 7 * c) = (1, 24) ∧ zκ (38 + 7 * c) = (1, 3) ∧ zκ (39 + 7 * c) = (2, 20)) c h
theorem zl_cy {c : Nat} (h : c < 4) : zκ (25 + 2 * c) = (0, 2) ∧ zκ (26 + 2 * c) = (1, 100) :=
  (by decide : ∀ c, c < 4 → zκ (25 + 2 * c) = (0, 2) ∧ zκ (26 + 2 * c) = (1, 100)) c h
theorem zl_rc {c : Nat} (h : c < 12) : zρ (33 + 7 * c) 1 = 34 + 7 * c ∧ zρ (33 + 7 * c) 2 = 35 + 7 * c ∧ zρ (33 + 7 * c) 3 = 36 + 7 * c ∧ zρ (33 + 7 * c) 4 = 37 + 7 * c ∧ zρ (33 + 7 * c) 5 = 38 + 7 * c ∧ zρ (33 + 7 * c) 6 = 39 + 7 * c :=
  (by decide : ∀ c, c < 12 → zρ (33 + 7 * c) 1 = 34 + 7 * c ∧ zρ (33 + 7 * c) 2 = 35 + 7 * c ∧ zρ (33 + 7 * c) 3 = 36 + 7 * c ∧ zρ (33 + 7 * c) 4 = 37 + 7 * c ∧ zρ (33 + 7 * c) 5 = 38 + 7 * c ∧ zρ (33 + 7 * c) 6 = 39 + 7 * c) c h
theorem zl_ry {c : Nat} (h : c < 4) : zρ (25 + 2 * c) 1 = 26 + 2 * c := (by decide : ∀ c, c < 4 → zρ (25 + 2 * c) 1 = 26 + 2 * c) c h
theorem zl_a {μ : Nat → Nat → Int32} {g : Int64} {k : Nat} {x : Nat × Nat} (h : zκ k = x) (h2 : (decide (0 < k) && decide (k ≤ 145)) = true) : zAt (zm μ g) k x := by
  simp only [Bool.and_eq_true, decide_eq_true_eq] at h2
  exact ⟨h, h2.1, h2.2⟩
theorem zl_b {μ : Nat → Nat → Int32} {g : Int64} {k : Nat} {x : Nat × Nat} (h : zκ k = x) (h2 : 0 < k) (h3 : k ≤ 145) : zAt (zm μ g) k x := ⟨h, h2, h3⟩
section ZL
variable {μ : Nat → Nat → Int32} {g : Int64} {c : Nat}
theorem zc0 (h : c < 12) : zAt (zm μ g) (33 + 7 * c) (0, 0) := zl_b (zl_ch h).1 (by omega) (by omega)
theorem zc1 (h : c < 12) : zAt (zm μ g) (34 + 7 * c) (1, 24) := zl_b (zl_ch h).2.1 (by omega) (by omega)
theorem zc2 (h : c < 12) : zAt (zm μ g) (35 + 7 * c) (1, 24) := zl_b (zl_ch h).2.2.1 (by omega) (by omega)
theorem zc3 (h : c < 12) : zAt (zm μ g) (36 + 7 * c) (1, 24) := zl_b (zl_ch h).2.2.2.1 (by omega) (by omega)
theorem zc4 (h : c < 12) : zAt (zm μ g) (37 + 7 * c) (1, 24) := zl_b (zl_ch h).2.2.2.2.1 (by omega) (by omega)
theorem zc5 (h : c < 12) : zAt (zm μ g) (38 + 7 * c) (1, 3) := zl_b (zl_ch h).2.2.2.2.2.1 (by omega) (by omega)
theorem zc6 (h : c < 12) : zAt (zm μ g) (39 + 7 * c) (2, 20) := zl_b (zl_ch h).2.2.2.2.2.2 (by omega) (by omega)
theorem zy0 (h : c < 4) : zAt (zm μ g) (25 + 2 * c) (0, 2) := zl_b (zl_cy h).1 (by omega) (by omega)
theorem zy1 (h : c < 4) : zAt (zm μ g) (26 + 2 * c) (1, 100) := zl_b (zl_cy h).2 (by omega) (by omega)
end ZL
/-- a truth value as an int -/
def zb (p : Prop) [Decidable p] : Int32 := if p then 1 else 0
theorem zb_0 {p : Prop} [Decidable p] : zb p = 0 ↔ ¬ p := by
  unfold zb
  by_cases h : p
  · simp [h]
  · simp [h]
theorem zb_n {p : Prop} [Decidable p] : ¬ zb p = 0 ↔ p := by rw [zb_0, Classical.not_not]
theorem zb_t {p : Prop} [Decidable p] (h : p) : zb p = 1 := if_pos h
theorem zb_f {p : Prop} [Decidable p] (h : ¬ p) : zb p = 0 := if_neg h
theorem zb_nar (p : Prop) [Decidable p] : narrow .boolean (.int (zb p)) = .int (zb p) := by
  unfold zb
  by_cases h : p
  · simp [h]; rfl
  · simp [h]; rfl
theorem zb_or (p : Prop) [Decidable p] : zb p = 0 ∨ zb p = 1 := by
  by_cases h : p
  · exact Or.inr (zb_t h)
  · exact Or.inl (zb_f h)
theorem zb_cong {p q : Prop} [Decidable p] [Decidable q] (h : p ↔ q) : zb p = zb q := by
  by_cases h9 : p
  · rw [zb_t h9, zb_t (h.mp h9)]
  · rw [zb_f h9, zb_f (fun a => h9 (h.mpr a))]
theorem znarI (x : Int32) : narrow .int (.int x) = .int x := rfl
section ZP
variable {F : Bool} {E : Nat × (Nat → Int32)} {K K9 : zK} {n0 : Nat} {o : zO} {pc : Nat} {ls sk : List Value} {μ : Nat → Nat → Int32} {g : Int64} {u us : Nat}
theorem m_getI {idx ci j k : Nat} (hf : zF (zKy K).cls idx ci j) (hk : zAt (zm μ g) k (0, ci)) (hi : (zfl ci).getD j true = true) (d : decode (zKc K) pc = .ok (.getfield idx, 3))
    (kk : zV F E K n0 o (pc + 3) ls (.int (μ k j) :: sk) (zm μ g) u us) : zV F E K n0 o pc ls (.ref k :: sk) (zm μ g) u us := z_getI hf hk hi d kk
theorem m_getR {idx ci j k : Nat} (k1 : Nat) (hf : zF (zKy K).cls idx ci j) (hk : zAt (zm μ g) k (0, ci)) (hi : (zfl ci).getD j true = false) (hr : zρ k j = k1) (h1 : 0 < k1) (d : decode (zKc K) pc = .ok (.getfield idx, 3))
    (kk : zV F E K n0 o (pc + 3) ls (.ref k1 :: sk) (zm μ g) u us) : zV F E K n0 o pc ls (.ref k :: sk) (zm μ g) u us := z_getR k1 hf hk hi hr h1 d kk
theorem m_putI {idx ci j k : Nat} {x : Int32} (hf : zF (zKy K).cls idx ci j) (hk : zAt (zm μ g) k (0, ci)) (hi : (zfl ci).getD j true = true) (d : decode (zKc K) pc = .ok (.putfield idx, 3))
    (kk : zV F E K n0 o (pc + 3) ls sk (zm (zu μ k j x) g) u us) : zV F E K n0 o pc ls (.int x :: .ref k :: sk) (zm μ g) u us := z_putI hf hk hi d kk
theorem m_ix {i : Int32} {j n : Nat} (hi : i = nI j) (hj : j < n) (hn : n ≤ 1000) : vp_in i n ∧ i.toNatClampNeg = j := by
  subst hi
  exact ⟨vp_in_nI hj (by omega), nI_clamp (by omega)⟩
theorem m_iald {n k : Nat} {i : Int32} (j : Nat) (hk : zAt (zm μ g) k (1, n)) (hi : i = nI j) (hj : j < n) (hn : n ≤ 1000) (d : decode (zKc K) pc = .ok (.iaload, 1))
    (kk : zV F E K n0 o (pc + 1) ls (.int (μ k j) :: sk) (zm μ g) u us) : zV F E K n0 o pc ls (.int i :: .ref k :: sk) (zm μ g) u us := by
  obtain ⟨h1, h2⟩ := m_ix hi hj hn
  exact z_iald hk h1 d (by rw [h2]; exact kk)
theorem m_zald {n k : Nat} {i : Int32} (j : Nat) (hk : zAt (zm μ g) k (2, n)) (hi : i = nI j) (hj : j < n) (hn : n ≤ 1000) (d : decode (zKc K) pc = .ok (.baload, 1))
    (kk : zV F E K n0 o (pc + 1) ls (.int (μ k j) :: sk) (zm μ g) u us) : zV F E K n0 o pc ls (.int i :: .ref k :: sk) (zm μ g) u us := by
  obtain ⟨h1, h2⟩ := m_ix hi hj hn
  exact z_zald hk h1 d (by rw [h2]; exact kk)
theorem m_aald {n k t : Nat} {i : Int32} (j k1 : Nat) (ht : t = 4 ∨ t = 5) (hk : zAt (zm μ g) k (t, n)) (hi : i = nI j) (hj : j < n) (hn : n ≤ 1000) (hr : zρ k j = k1) (h0 : 0 < k1) (d : decode (zKc K) pc = .ok (.aaload, 1))
    (kk : zV F E K n0 o (pc + 1) ls (.ref k1 :: sk) (zm μ g) u us) : zV F E K n0 o pc ls (.int i :: .ref k :: sk) (zm μ g) u us := by
  obtain ⟨h1, h2⟩ := m_ix hi hj hn
  exact z_aald ht hk h1 (by rw [h2]; exact hr) h0 d kk
theorem m_iast {n k : Nat} {i x : Int32} (j : Nat) (hk : zAt (zm μ g) k (1, n)) (hi : i = nI j) (hj : j < n) (hn : n ≤ 1000) (d : decode (zKc K) pc = .ok (.iastore, 1))
    (kk : zV F E K n0 o (pc + 1) ls sk (zm (zu μ k j x) g) u us) : zV F E K n0 o pc ls (.int x :: .int i :: .ref k :: sk) (zm μ g) u us := by
  obtain ⟨h1, h2⟩ := m_ix hi hj hn
  exact z_iast hk h1 d (by rw [h2]; exact kk)
theorem m_zast {n k : Nat} {i x : Int32} (j : Nat) (hk : zAt (zm μ g) k (2, n)) (hi : i = nI j) (hj : j < n) (hn : n ≤ 1000) (hx : x = 0 ∨ x = 1) (d : decode (zKc K) pc = .ok (.bastore, 1))
    (kk : zV F E K n0 o (pc + 1) ls sk (zm (zu μ k j x) g) u us) : zV F E K n0 o pc ls (.int x :: .int i :: .ref k :: sk) (zm μ g) u us := by
  obtain ⟨h1, h2⟩ := m_ix hi hj hn
  exact z_zast hk h1 hx d (by rw [h2]; exact kk)
theorem m_addN {a b : Nat} {M : zM} (d : decode (zKc K) pc = .ok (.iadd, 1)) (kk : zV F E K n0 o (pc + 1) ls (.int (nI (a + b)) :: sk) M u us) : zV F E K n0 o pc ls (.int (nI b) :: .int (nI a) :: sk) M u us := z_iadd d (by rw [nI_add]; exact kk)
theorem m_mulN {a b : Nat} {M : zM} (d : decode (zKc K) pc = .ok (.imul, 1)) (kk : zV F E K n0 o (pc + 1) ls (.int (nI (a * b)) :: sk) M u us) : zV F E K n0 o pc ls (.int (nI b) :: .int (nI a) :: sk) M u us := z_imul d (by rw [pk_mul]; exact kk)
theorem m_subN {a b : Nat} {M : zM} (h : b ≤ a) (d : decode (zKc K) pc = .ok (.isub, 1)) (kk : zV F E K n0 o (pc + 1) ls (.int (nI (a - b)) :: sk) M u us) : zV F E K n0 o pc ls (.int (nI b) :: .int (nI a) :: sk) M u us := z_isub d (by rw [pk_sub h]; exact kk)
theorem zinc (a : Nat) : nI a + Int32.ofInt 1 = nI (a + 1) := nI_1 a
theorem zcn {n : Nat} (h : n < 2147483648) (m : Nat) (hm : m < 2147483648) : (nI n = nI m ↔ n = m) ∧ (nI n < nI m ↔ n < m) ∧ (nI n ≤ nI m ↔ n ≤ m) := ⟨nI_eq h hm, nI_ltI h hm, nI_leI h hm⟩
/-- a branch whose condition is said in other words -/
theorem z_br {c c' : Prop} {P : Prop} (h : c ↔ c') (k : c' → P) : c → P := fun q => k (h.mp q)
theorem z_brn {c c' : Prop} {P : Prop} (h : c ↔ c') (k : ¬ c' → P) : ¬ c → P := fun q => k (fun x => q (h.mpr x))
theorem m_eqv {v w : Int32} {M : zM} (h : v = w) (kk : zV F E K n0 o pc ls (.int w :: sk) M u us) : zV F E K n0 o pc ls (.int v :: sk) M u us := by rw [h]; exact kk
end ZP
end
section
/-! words for what the methods answer -/
theorem zas_0 : ∀ v ∈ ([] : List Value), v.category = 1 ∧ v ≠ .null := fun v h => by cases h
theorem zas_i {x : Int32} {as : List Value} (h : ∀ v ∈ as, v.category = 1 ∧ v ≠ .null) : ∀ v ∈ Value.int x :: as, v.category = 1 ∧ v ≠ .null := fun v hv => (List.mem_cons.mp hv).elim (fun e => by subst e; exact ⟨rfl, fun q => by cases q⟩) (h v)
theorem zas_r {x : Nat} {as : List Value} (h : ∀ v ∈ as, v.category = 1 ∧ v ≠ .null) : ∀ v ∈ Value.ref x :: as, v.category = 1 ∧ v ≠ .null := fun v hv => (List.mem_cons.mp hv).elim (fun e => by subst e; exact ⟨rfl, fun q => by cases q⟩) (h v)
def xI : String := "java/lang/IndexOutOfBoundsException"
def xA : String := "java/lang/IllegalArgumentException"
def xS : String := "java/lang/IllegalStateException"
theorem zleafT {p : Prop} [Decidable p] {M : zM} (h : p) : ((.inl (some (.int (zb p))), M) : zO) = (.inl (some (.int (nI 1))), M) := by rw [zb_t h]; rfl
theorem zleafF {p : Prop} [Decidable p] {M : zM} (h : ¬ p) : ((.inl (some (.int (zb p))), M) : zO) = (.inl (some (.int (nI 0))), M) := by rw [zb_f h]; rfl
theorem z0e {n : Nat} (h : n < 2147483648) : nI n = 0 ↔ n = 0 := by rw [← nI_0]; exact nI_eq h (by decide)
theorem z0p {n : Nat} (h : n < 2147483648) : 0 < nI n ↔ 0 < n := by rw [← nI_0]; exact nI_ltI (by decide) h
theorem z0l {n : Nat} (h : n < 2147483648) : nI n ≤ 0 ↔ n = 0 := by rw [← nI_0]; exact (nI_leI h (by decide)).trans (by omega)
/-- an index in range -/
abbrev zrg (n : Nat) (p : Int32) : Prop := ¬ p < 0 ∧ p < nI n
theorem zrg_nI {n j : Nat} (h : j < n) (hn : n < 2147483648) : zrg n (nI j) := ⟨nI_pos (by omega), nI_lt h hn⟩
theorem zrg_of {n : Nat} {p : Int32} (h : zrg n p) (hn : n < 2147483648) : ∃ j, j < n ∧ p = nI j := by
  obtain ⟨j, hj, rfl⟩ := nI_of h.1
  exact ⟨j, (nI_ltI hj hn).mp h.2, rfl⟩
theorem zrg_cases (n : Nat) (hn : n < 2147483648) (p : Int32) : ¬ zrg n p ∨ ∃ j, j < n ∧ p = nI j := by
  by_cases h : zrg n p
  · exact Or.inr (zrg_of h hn)
  · exact Or.inl h
abbrev zin (v e : Int32) : Prop := ¬ v < -e ∧ ¬ e < v
abbrev znm (v : Int32) : Prop := ¬ v < nI 1 ∧ ¬ nI 99 < v
abbrev zyr (v : Int32) : Prop := ¬ v < 0 ∧ ¬ nI 2000 < v
/-- the class's point of a chart is known -/
abbrev zkn (μ : Nat → Nat → Int32) (c p : Nat) : Prop := ¬ μ (34 + 7 * c) p = 100000
abbrev zput (μ : Nat → Nat → Int32) (c p : Nat) (x y s : Int32) : Nat → Nat → Int32 := zu (zu (zu μ (34 + 7 * c) p x) (35 + 7 * c) p y) (37 + 7 * c) p s
end
section
/-! loops as folds -/
def zit {α : Type} (f : Nat → α → α) (a : Nat) : Nat → α → α
  | 0, s => s
  | n + 1, s => f (a + n) (zit f a n s)
theorem zit_s {α : Type} (f : Nat → α → α) (a n : Nat) (s : α) : zit f a (n + 1) s = f (a + n) (zit f a n s) := rfl
abbrev zMu : Type := Nat → Nat → Int32
/-- what a body does on one road -/
theorem zst {α : Type} {f : Nat → α → α} {a m : Nat} {s s0 s' : α} (hs : s = zit f a m s0) (h : s' = f (a + m) s) : s' = zit f a (m + 1) s0 := by rw [zit_s, ← hs]; exact h
/-- a source, followed from an int -/
def zsrc (μ : zMu) (nc p : Nat) (l : Int32) : Int32 := if ¬ l < 0 ∧ l < nI nc then μ (37 + 7 * l.toNatClampNeg) p else -1
theorem zsrc_n {μ : zMu} {nc p j : Nat} (h : j < nc) (hn : nc ≤ 12) : zsrc μ nc p (nI j) = μ (37 + 7 * j) p := by
  rw [zsrc, if_pos ⟨nI_pos (by omega), nI_lt h (by omega)⟩, nI_clamp (by omega)]
theorem zsrc_m {μ : zMu} {nc p : Nat} : zsrc μ nc p (-1) = -1 := by
  rw [zsrc, if_neg (fun h => h.1 (by decide))]
/-- a place drawn by a copyist -/
def zdraw (x way h : Int32) : Int32 := if way = 1 then x / nI 5 * nI 5 else if way = 2 then x + h else x
abbrev zgive (μ : zMu) (p : Nat) (x y : Int32) : zMu := zu (zu (zu μ 16 p (μ 16 p + x)) 17 p (μ 17 p + y)) 18 p (μ 18 p + nI 1)
abbrev zerr (μ : zMu) (c p : Nat) (inX : Prop) [Decidable inX] : Int32 := if inX then μ (34 + 7 * c) p - μ 3 p else μ (35 + 7 * c) p - μ 4 p
abbrev ztn (μ : zMu) (c p : Nat) : Prop := μ (36 + 7 * c) p = μ 5 p
abbrev zshe (μ : zMu) (c d p : Nat) : Prop := zkn μ c p ∧ zkn μ d p ∧ μ (34 + 7 * c) p = μ (34 + 7 * d) p ∧ μ (35 + 7 * c) p = μ (35 + 7 * d) p ∧ (¬ μ (34 + 7 * c) p - μ 3 p = 0 ∨ ¬ μ (35 + 7 * c) p - μ 4 p = 0)
theorem znab {x y z : Int32} (h : ¬ x = y) : ¬ (x = y ∧ z = z) := fun q => h q.1
theorem zu_o {μ : zMu} {k j a b : Nat} {x : Int32} (h : a ≠ k) : zu μ k j x a b = μ a b := by simp [zu, h]
theorem zu_o2 {μ : zMu} {k j a b : Nat} {x : Int32} (h : b ≠ j) : zu μ k j x a b = μ a b := by simp [zu, h]
theorem zu_s {μ : zMu} {k j : Nat} {x : Int32} : zu μ k j x k j = x := by simp [zu]
end
section
/-! the class: small methods (printed by wip/whole/gen_a.py) -/
set_option maxRecDepth 100000 in
set_option maxHeartbeats 4000000 in
theorem ct_X7_isWithin {E : Nat × (Nat → Int32)} {μ : Nat → Nat → Int32} {g : Int64} (v e : Int32) : zCt E kX7_isWithin [.int (v), .int (e)] (zm μ g) (.inl (some (.int (zb (zin v e)))), zm μ g) := by
  refine zCt_of ko_X7_isWithin (Nat.le_of_ble_eq_true rfl) (zas_i (zas_i zas_0)) ⟨Nat.le_refl _, fun h => absurd h (Nat.lt_irrefl _)⟩ (Nat.le_of_ble_eq_true rfl) ?_
  show zV false E kX7_isWithin 145 _ 0 [.int (v), .int (e)] [] (zm μ g) 0 0
  refine z_iload_n rfl rfl dX7_isWithin_0 ?_
  refine z_iload_n rfl rfl dX7_isWithin_1 ?_
  refine z_ineg dX7_isWithin_2 ?_
  refine z_icmp_lt 15 (by decide) dX7_isWithin_3 (fun h1 => ?_) (fun h2 => ?_)
  · refine z_iconst (nI 0) (by decide) dX7_isWithin_15 ?_
    exact z_iret (zleafF (by simp_all)) rfl rfl (by decide) (by decide) dX7_isWithin_16
  · refine z_iload_n rfl rfl dX7_isWithin_6 ?_
    refine z_iload_n rfl rfl dX7_isWithin_7 ?_
    refine z_icmp_gt 15 (by decide) dX7_isWithin_8 (fun h3 => ?_) (fun h4 => ?_)
    · refine z_iconst (nI 0) (by decide) dX7_isWithin_15 ?_
      exact z_iret (zleafF (by simp_all)) rfl rfl (by decide) (by decide) dX7_isWithin_16
    · refine z_iconst (nI 1) (by decide) dX7_isWithin_11 ?_
      refine z_goto 16 (by decide) dX7_isWithin_12 ?_
      exact z_iret (zleafT (by and_intros <;> assumption)) rfl rfl (by decide) (by decide) dX7_isWithin_16
set_option maxRecDepth 100000 in
set_option maxHeartbeats 4000000 in
theorem ct_X7_isName {E : Nat × (Nat → Int32)} {μ : Nat → Nat → Int32} {g : Int64} (v : Int32) : zCt E kX7_isName [.int (v)] (zm μ g) (.inl (some (.int (zb (znm v)))), zm μ g) := by
  refine zCt_of ko_X7_isName (Nat.le_of_ble_eq_true rfl) (zas_i zas_0) ⟨Nat.le_refl _, fun h => absurd h (Nat.lt_irrefl _)⟩ (Nat.le_of_ble_eq_true rfl) ?_
  show zV false E kX7_isName 145 _ 0 [.int (v)] [] (zm μ g) 0 0
  refine z_iload_n rfl rfl dX7_isName_0 ?_
  refine z_iconst (nI 1) (by decide) dX7_isName_1 ?_
  refine z_icmp_lt 15 (by decide) dX7_isName_2 (fun h1 => ?_) (fun h2 => ?_)
  · refine z_iconst (nI 0) (by decide) dX7_isName_15 ?_
    exact z_iret (zleafF (by simp_all)) rfl rfl (by decide) (by decide) dX7_isName_16
  · refine z_iload_n rfl rfl dX7_isName_5 ?_
    refine z_bipush (nI 99) (by decide) dX7_isName_6 ?_
    refine z_icmp_gt 15 (by decide) dX7_isName_8 (fun h3 => ?_) (fun h4 => ?_)
    · refine z_iconst (nI 0) (by decide) dX7_isName_15 ?_
      exact z_iret (zleafF (by simp_all)) rfl rfl (by decide) (by decide) dX7_isName_16
    · refine z_iconst (nI 1) (by decide) dX7_isName_11 ?_
      refine z_goto 16 (by decide) dX7_isName_12 ?_
      exact z_iret (zleafT (by and_intros <;> assumption)) rfl rfl (by decide) (by decide) dX7_isName_16
set_option maxRecDepth 100000 in
set_option maxHeartbeats 4000000 in
theorem ct_X7_isYear {E : Nat × (Nat → Int32)} {μ : Nat → Nat → Int32} {g : Int64} (v : Int32) : zCt E kX7_isYear [.int (v)] (zm μ g) (.inl (some (.int (zb (zyr v)))), zm μ g) := by
  refine zCt_of ko_X7_isYear (Nat.le_of_ble_eq_true rfl) (zas_i zas_0) ⟨Nat.le_refl _, fun h => absurd h (Nat.lt_irrefl _)⟩ (Nat.le_of_ble_eq_true rfl) ?_
  show zV false E kX7_isYear 145 _ 0 [.int (v)] [] (zm μ g) 0 0
  refine z_iload_n rfl rfl dX7_isYear_0 ?_
  refine z_if_lt 15 (by decide) dX7_isYear_1 (fun h1 => ?_) (fun h2 => ?_)
  · refine z_iconst (nI 0) (by decide) dX7_isYear_15 ?_
    exact z_iret (zleafF (by simp_all)) rfl rfl (by decide) (by decide) dX7_isYear_16
  · refine z_iload_n rfl rfl dX7_isYear_4 ?_
    refine z_sipush (nI 2000) (by decide) dX7_isYear_5 ?_
    refine z_icmp_gt 15 (by decide) dX7_isYear_8 (fun h3 => ?_) (fun h4 => ?_)
    · refine z_iconst (nI 0) (by decide) dX7_isYear_15 ?_
      exact z_iret (zleafF (by simp_all)) rfl rfl (by decide) (by decide) dX7_isYear_16
    · refine z_iconst (nI 1) (by decide) dX7_isYear_11 ?_
      refine z_goto 16 (by decide) dX7_isYear_12 ?_
      exact z_iret (zleafT (by and_intros <;> assumption)) rfl rfl (by decide) (by decide) dX7_isYear_16
set_option maxRecDepth 100000 in
set_option maxHeartbeats 4000000 in
theorem ct_X7_firstOf {E : Nat × (Nat → Int32)} {μ : Nat → Nat → Int32} {g : Int64} (b : Nat) : zCt E kX7_firstOf [.int (nI b)] (zm μ g) (.inl (some (.int (nI (b * 8)))), zm μ g) := by
  refine zCt_of ko_X7_firstOf (Nat.le_of_ble_eq_true rfl) (zas_i zas_0) ⟨Nat.le_refl _, fun h => absurd h (Nat.lt_irrefl _)⟩ (Nat.le_of_ble_eq_true rfl) ?_
  show zV false E kX7_firstOf 145 _ 0 [.int (nI b)] [] (zm μ g) 0 0
  refine z_iload_n rfl rfl dX7_firstOf_0 ?_
  refine z_bipush (nI 8) (by decide) dX7_firstOf_1 ?_
  refine m_mulN dX7_firstOf_3 ?_
  exact z_iret (rfl) rfl (znarI _) (by decide) (by decide) dX7_firstOf_4
set_option maxRecDepth 100000 in
set_option maxHeartbeats 4000000 in
theorem ct_X7_lastOf {E : Nat × (Nat → Int32)} {μ : Nat → Nat → Int32} {g : Int64} (b : Nat) : zCt E kX7_lastOf [.int (nI b)] (zm μ g) (.inl (some (.int (nI (b * 8 + 8 - 1)))), zm μ g) := by
  refine zCt_of ko_X7_lastOf (Nat.le_of_ble_eq_true rfl) (zas_i zas_0) ⟨Nat.le_refl _, fun h => absurd h (Nat.lt_irrefl _)⟩ (Nat.le_of_ble_eq_true rfl) ?_
  show zV false E kX7_lastOf 145 _ 0 [.int (nI b)] [] (zm μ g) 0 0
  refine z_iload_n rfl rfl dX7_lastOf_0 ?_
  refine z_callS (as := [.int (nI b)]) (ct_X7_firstOf b) ko_X7_firstOf kl_X7_284 rfl rfl ⟨by decide, by decide, by decide, by decide⟩ (by decide) rfl dX7_lastOf_1 ?_
  refine z_bipush (nI 8) (by decide) dX7_lastOf_4 ?_
  refine m_addN dX7_lastOf_6 ?_
  refine z_iconst (nI 1) (by decide) dX7_lastOf_7 ?_
  refine m_subN (by omega) dX7_lastOf_8 ?_
  exact z_iret (rfl) rfl (znarI _) (by decide) (by decide) dX7_lastOf_9
set_option maxRecDepth 100000 in
set_option maxHeartbeats 4000000 in
theorem ct_X7_needPoint {E : Nat × (Nat → Int32)} {μ : Nat → Nat → Int32} {g : Int64} {j : Nat} (hj : j < 24) : zCt E kX7_needPoint [.int (nI j)] (zm μ g) (.inl none, zm μ g) := by
  refine zCt_of ko_X7_needPoint (Nat.le_of_ble_eq_true rfl) (zas_i zas_0) ⟨Nat.le_refl _, fun h => absurd h (Nat.lt_irrefl _)⟩ (Nat.le_of_ble_eq_true rfl) ?_
  show zV false E kX7_needPoint 145 _ 0 [.int (nI j)] [] (zm μ g) 0 0
  refine z_iload_n rfl rfl dX7_needPoint_0 ?_
  refine z_if_lt 10 (by decide) dX7_needPoint_1 (fun h => absurd h (nI_pos (n := j) (by omega))) (fun _ => ?_)
  refine z_iload_n rfl rfl dX7_needPoint_4 ?_
  refine z_bipush (nI 24) (by decide) dX7_needPoint_5 ?_
  refine z_icmp_lt 21 (by decide) dX7_needPoint_7 (z_br (zcn (n := j) (by omega) (24) (by omega)).2.1 (fun h3 => ?_)) (z_brn (zcn (n := j) (by omega) (24) (by omega)).2.1 (fun h4 => ?_))
  · exact z_vret (rfl) rfl (by decide) (by decide) dX7_needPoint_21
  · omega
set_option maxRecDepth 100000 in
set_option maxHeartbeats 4000000 in
theorem ctx_X7_needPoint {E : Nat × (Nat → Int32)} {μ : Nat → Nat → Int32} {g : Int64} {p : Int32} (hp : ¬ zrg 24 p) : zCt E kX7_needPoint [.int (p)] (zm μ g) (.inr xI, zm μ g) := by
  refine zCt_of ko_X7_needPoint (Nat.le_of_ble_eq_true rfl) (zas_i zas_0) ⟨Nat.le_refl _, fun h => absurd h (Nat.lt_irrefl _)⟩ (Nat.le_of_ble_eq_true rfl) ?_
  show zV false E kX7_needPoint 145 _ 0 [.int (p)] [] (zm μ g) 0 0
  refine z_iload_n rfl rfl dX7_needPoint_0 ?_
  refine z_if_lt 10 (by decide) dX7_needPoint_1 (fun h1 => ?_) (fun h2 => ?_)
  · exact z_throwW (text := "no such point") (rfl) kt_116 (by decide +kernel) rfl (by decide) (by decide) (by decide) (by decide) dX7_needPoint_10 dX7_needPoint_13 dX7_needPoint_14 dX7_needPoint_17 dX7_needPoint_20
  · refine z_iload_n rfl rfl dX7_needPoint_4 ?_
    refine z_bipush (nI 24) (by decide) dX7_needPoint_5 ?_
    refine z_icmp_lt 21 (by decide) dX7_needPoint_7 (fun h3 => ?_) (fun h4 => ?_)
    · exact absurd ⟨h2, h3⟩ hp
    · exact z_throwW (text := "no such point") (rfl) kt_116 (by decide +kernel) rfl (by decide) (by decide) (by decide) (by decide) dX7_needPoint_10 dX7_needPoint_13 dX7_needPoint_14 dX7_needPoint_17 dX7_needPoint_20
set_option maxRecDepth 100000 in
set_option maxHeartbeats 4000000 in
theorem ct_X7_needBasin {E : Nat × (Nat → Int32)} {μ : Nat → Nat → Int32} {g : Int64} {j : Nat} (hj : j < 3) : zCt E kX7_needBasin [.int (nI j)] (zm μ g) (.inl none, zm μ g) := by
  refine zCt_of ko_X7_needBasin (Nat.le_of_ble_eq_true rfl) (zas_i zas_0) ⟨Nat.le_refl _, fun h => absurd h (Nat.lt_irrefl _)⟩ (Nat.le_of_ble_eq_true rfl) ?_
  show zV false E kX7_needBasin 145 _ 0 [.int (nI j)] [] (zm μ g) 0 0
  refine z_iload_n rfl rfl dX7_needBasin_0 ?_
  refine z_if_lt 9 (by decide) dX7_needBasin_1 (fun h => absurd h (nI_pos (n := j) (by omega))) (fun _ => ?_)
  refine z_iload_n rfl rfl dX7_needBasin_4 ?_
  refine z_iconst (nI 3) (by decide) dX7_needBasin_5 ?_
  refine z_icmp_lt 20 (by decide) dX7_needBasin_6 (z_br (zcn (n := j) (by omega) (3) (by omega)).2.1 (fun h3 => ?_)) (z_brn (zcn (n := j) (by omega) (3) (by omega)).2.1 (fun h4 => ?_))
  · exact z_vret (rfl) rfl (by decide) (by decide) dX7_needBasin_20
  · omega
set_option maxRecDepth 100000 in
set_option maxHeartbeats 4000000 in
theorem ctx_X7_needBasin {E : Nat × (Nat → Int32)} {μ : Nat → Nat → Int32} {g : Int64} {p : Int32} (hp : ¬ zrg 3 p) : zCt E kX7_needBasin [.int (p)] (zm μ g) (.inr xI, zm μ g) := by
  refine zCt_of ko_X7_needBasin (Nat.le_of_ble_eq_true rfl) (zas_i zas_0) ⟨Nat.le_refl _, fun h => absurd h (Nat.lt_irrefl _)⟩ (Nat.le_of_ble_eq_true rfl) ?_
  show zV false E kX7_needBasin 145 _ 0 [.int (p)] [] (zm μ g) 0 0
  refine z_iload_n rfl rfl dX7_needBasin_0 ?_
  refine z_if_lt 9 (by decide) dX7_needBasin_1 (fun h1 => ?_) (fun h2 => ?_)
  · exact z_throwW (text := "no such basin") (rfl) kt_116 (by decide +kernel) rfl (by decide) (by decide) (by decide) (by decide) dX7_needBasin_9 dX7_needBasin_12 dX7_needBasin_13 dX7_needBasin_16 dX7_needBasin_19
  · refine z_iload_n rfl rfl dX7_needBasin_4 ?_
    refine z_iconst (nI 3) (by decide) dX7_needBasin_5 ?_
    refine z_icmp_lt 20 (by decide) dX7_needBasin_6 (fun h3 => ?_) (fun h4 => ?_)
    · exact absurd ⟨h2, h3⟩ hp
    · exact z_throwW (text := "no such basin") (rfl) kt_116 (by decide +kernel) rfl (by decide) (by decide) (by decide) (by decide) dX7_needBasin_9 dX7_needBasin_12 dX7_needBasin_13 dX7_needBasin_16 dX7_needBasin_19
set_option maxRecDepth 100000 in
set_option maxHeartbeats 4000000 in
theorem ct_X0_knows {E : Nat × (Nat → Int32)} {μ : Nat → Nat → Int32} {g : Int64} {c p : Nat} (hc : c < 12) (hp : p < 24) : zCt E kX0_knows [.ref (33 + 7 * c), .int (nI p)] (zm μ g) (.inl (some (.int (zb (zkn μ c p)))), zm μ g) := by
  refine zCt_of ko_X0_knows (Nat.le_of_ble_eq_true rfl) (zas_r (zas_i zas_0)) ⟨Nat.le_refl _, fun h => absurd h (Nat.lt_irrefl _)⟩ (Nat.le_of_ble_eq_true rfl) ?_
  show zV false E kX0_knows 145 _ 0 [.ref (33 + 7 * c), .int (nI p)] [] (zm μ g) 0 0
  refine z_aload_n rfl rfl dX0_knows_0 ?_
  refine m_getR (34 + 7 * c) kf_X0_15 (zc0 (by omega)) rfl (zl_rc (by omega)).1 (by omega) dX0_knows_1 ?_
  refine z_iload_n rfl rfl dX0_knows_4 ?_
  refine m_iald (p) (zc1 (by omega)) rfl (by omega) (by decide) dX0_knows_5 ?_
  refine z_ldc (100000) kc_X0_35 dX0_knows_6 ?_
  refine z_icmp_eq 15 (by decide) dX0_knows_8 (fun h1 => ?_) (fun h2 => ?_)
  · refine z_iconst (nI 0) (by decide) dX0_knows_15 ?_
    exact z_iret (zleafF (fun q => q h1)) rfl rfl (by decide) (by decide) dX0_knows_16
  · refine z_iconst (nI 1) (by decide) dX0_knows_11 ?_
    refine z_goto 16 (by decide) dX0_knows_12 ?_
    exact z_iret (zleafT h2) rfl rfl (by decide) (by decide) dX0_knows_16
set_option maxRecDepth 100000 in
set_option maxHeartbeats 4000000 in
theorem ct_X0_put {E : Nat × (Nat → Int32)} {μ : Nat → Nat → Int32} {g : Int64} {c p : Nat} (hc : c < 12) (hp : p < 24) (x y f : Int32) : zCt E kX0_put [.ref (33 + 7 * c), .int (nI p), .int (x), .int (y), .int (f)] (zm μ g) (.inl none, zm (zput μ c p x y f) g) := by
  refine zCt_of ko_X0_put (Nat.le_of_ble_eq_true rfl) (zas_r (zas_i (zas_i (zas_i (zas_i zas_0))))) ⟨Nat.le_refl _, fun h => absurd h (Nat.lt_irrefl _)⟩ (Nat.le_of_ble_eq_true rfl) ?_
  show zV false E kX0_put 145 _ 0 [.ref (33 + 7 * c), .int (nI p), .int (x), .int (y), .int (f)] [] (zm μ g) 0 0
  refine z_aload_n rfl rfl dX0_put_0 ?_
  refine m_getR (34 + 7 * c) kf_X0_15 (zc0 (by omega)) rfl (zl_rc (by omega)).1 (by omega) dX0_put_1 ?_
  refine z_iload_n rfl rfl dX0_put_4 ?_
  refine z_iload_n rfl rfl dX0_put_5 ?_
  refine m_iast (p) (zc1 (by omega)) rfl (by omega) (by decide) dX0_put_6 ?_
  refine z_aload_n rfl rfl dX0_put_7 ?_
  refine m_getR (35 + 7 * c) kf_X0_19 (zc0 (by omega)) rfl (zl_rc (by omega)).2.1 (by omega) dX0_put_8 ?_
  refine z_iload_n rfl rfl dX0_put_11 ?_
  refine z_iload_n rfl rfl dX0_put_12 ?_
  refine m_iast (p) (zc2 (by omega)) rfl (by omega) (by decide) dX0_put_13 ?_
  refine z_aload_n rfl rfl dX0_put_14 ?_
  refine m_getR (37 + 7 * c) kf_X0_25 (zc0 (by omega)) rfl (zl_rc (by omega)).2.2.2.1 (by omega) dX0_put_15 ?_
  refine z_iload_n rfl rfl dX0_put_18 ?_
  refine z_iload rfl dX0_put_19 ?_
  refine m_iast (p) (zc4 (by omega)) rfl (by omega) (by decide) dX0_put_21 ?_
  exact z_vret (rfl) rfl (by decide) (by decide) dX0_put_22
set_option maxRecDepth 100000 in
set_option maxHeartbeats 4000000 in
theorem ct_X0_forget {E : Nat × (Nat → Int32)} {μ : Nat → Nat → Int32} {g : Int64} {c p : Nat} (hc : c < 12) (hp : p < 24) : zCt E kX0_forget [.ref (33 + 7 * c), .int (nI p)] (zm μ g) (.inl none, zm (zput μ c p 100000 100000 (-1)) g) := by
  refine zCt_of ko_X0_forget (Nat.le_of_ble_eq_true rfl) (zas_r (zas_i zas_0)) ⟨Nat.le_refl _, fun h => absurd h (Nat.lt_irrefl _)⟩ (Nat.le_of_ble_eq_true rfl) ?_
  show zV false E kX0_forget 145 _ 0 [.ref (33 + 7 * c), .int (nI p)] [] (zm μ g) 0 0
  refine z_aload_n rfl rfl dX0_forget_0 ?_
  refine z_iload_n rfl rfl dX0_forget_1 ?_
  refine z_ldc (100000) kc_X0_35 dX0_forget_2 ?_
  refine z_ldc (100000) kc_X0_35 dX0_forget_4 ?_
  refine z_iconst (-1) (by decide) dX0_forget_6 ?_
  refine z_callV (as := [.int (nI p), .int (100000), .int (100000), .int (-1)]) (ct_X0_put (c := c) (p := p) (by omega) (by omega) (100000) (100000) (-1)) ko_X0_put kl_X0_36 rfl (zc0 (by omega)) rfl rfl ⟨by decide, by decide, by decide, by decide⟩ (by decide) rfl dX0_forget_7 ?_
  exact z_vret (rfl) rfl (by decide) (by decide) dX0_forget_10
set_option maxRecDepth 100000 in
set_option maxHeartbeats 4000000 in
theorem ct_X0_shrunk {E : Nat × (Nat → Int32)} {μ : Nat → Nat → Int32} {g : Int64} (x h : Int32) : zCt E kX0_shrunk [.int (x), .int (h)] (zm μ g) (.inl (some (.int (x * h / nI 100))), zm μ g) := by
  refine zCt_of ko_X0_shrunk (Nat.le_of_ble_eq_true rfl) (zas_i (zas_i zas_0)) ⟨Nat.le_refl _, fun h => absurd h (Nat.lt_irrefl _)⟩ (Nat.le_of_ble_eq_true rfl) ?_
  show zV false E kX0_shrunk 145 _ 0 [.int (x), .int (h)] [] (zm μ g) 0 0
  refine z_iload_n rfl rfl dX0_shrunk_0 ?_
  refine z_iload_n rfl rfl dX0_shrunk_1 ?_
  refine z_imul dX0_shrunk_2 ?_
  refine z_bipush (nI 100) (by decide) dX0_shrunk_3 ?_
  refine z_idiv (by decide) dX0_shrunk_5 ?_
  exact z_iret (rfl) rfl (znarI _) (by decide) (by decide) dX0_shrunk_6
set_option maxRecDepth 100000 in
set_option maxHeartbeats 4000000 in
theorem ct_X0_isPlace {E : Nat × (Nat → Int32)} {μ : Nat → Nat → Int32} {g : Int64} (x y : Int32) : zCt E kX0_isPlace [.int (x), .int (y)] (zm μ g) (.inl (some (.int (zb (zin x (nI 9999) ∧ zin y (nI 9999))))), zm μ g) := by
  refine zCt_of ko_X0_isPlace (Nat.le_of_ble_eq_true rfl) (zas_i (zas_i zas_0)) ⟨Nat.le_refl _, fun h => absurd h (Nat.lt_irrefl _)⟩ (Nat.le_of_ble_eq_true rfl) ?_
  show zV false E kX0_isPlace 145 _ 0 [.int (x), .int (y)] [] (zm μ g) 0 0
  refine z_iload_n rfl rfl dX0_isPlace_0 ?_
  refine z_sipush (nI 9999) (by decide) dX0_isPlace_1 ?_
  refine z_callSN (as := [.int (x), .int (nI 9999)]) (ct_X7_isWithin (x) (nI 9999)) ko_X7_isWithin kl_X0_63 rfl rfl ⟨by decide, by decide, by decide, by decide⟩ (by decide) rfl dX0_isPlace_4 ?_
  refine z_if_eq 24 (by decide) dX0_isPlace_7 (z_br zb_0 (fun h1 => ?_)) (z_br zb_n (fun h2 => ?_))
  · refine z_iconst (nI 0) (by decide) dX0_isPlace_24 ?_
    exact z_iret (zleafF (fun q => by first | exact absurd q.1 (by assumption) | exact absurd q.2 (by assumption))) rfl rfl (by decide) (by decide) dX0_isPlace_25
  · refine z_iload_n rfl rfl dX0_isPlace_10 ?_
    refine z_sipush (nI 9999) (by decide) dX0_isPlace_11 ?_
    refine z_callSN (as := [.int (y), .int (nI 9999)]) (ct_X7_isWithin (y) (nI 9999)) ko_X7_isWithin kl_X0_63 rfl rfl ⟨by decide, by decide, by decide, by decide⟩ (by decide) rfl dX0_isPlace_14 ?_
    refine z_if_eq 24 (by decide) dX0_isPlace_17 (z_br zb_0 (fun h3 => ?_)) (z_br zb_n (fun h4 => ?_))
    · refine z_iconst (nI 0) (by decide) dX0_isPlace_24 ?_
      exact z_iret (zleafF (fun q => by first | exact absurd q.1 (by assumption) | exact absurd q.2 (by assumption))) rfl rfl (by decide) (by decide) dX0_isPlace_25
    · refine z_iconst (nI 1) (by decide) dX0_isPlace_20 ?_
      refine z_goto 25 (by decide) dX0_isPlace_21 ?_
      exact z_iret (zleafT ⟨by assumption, by assumption⟩) rfl rfl (by decide) (by decide) dX0_isPlace_25
end
section
/-! the class: more small methods (printed by wip/whole/gen_b.py) -/
set_option maxRecDepth 100000 in
set_option maxHeartbeats 4000000 in
theorem ct_X7_needIsland {E : Nat × (Nat → Int32)} {μ : Nat → Nat → Int32} {g : Int64} {ni : Nat} (hni : μ 21 3 = nI ni) (hi20 : ni ≤ 20) {j : Nat} (hj : j < ni) : zCt E kX7_needIsland [.ref (1), .int (nI j)] (zm μ g) (.inl none, zm μ g) := by
  refine zCt_of ko_X7_needIsland (Nat.le_of_ble_eq_true rfl) (zas_r (zas_i zas_0)) ⟨Nat.le_refl _, fun h => absurd h (Nat.lt_irrefl _)⟩ (Nat.le_of_ble_eq_true rfl) ?_
  show zV false E kX7_needIsland 145 _ 0 [.ref (1), .int (nI j)] [] (zm μ g) 0 0
  refine z_iload_n rfl rfl dX7_needIsland_0 ?_
  refine z_if_lt 15 (by decide) dX7_needIsland_1 (fun h => absurd h (nI_pos (n := j) (by omega))) (fun _ => ?_)
  refine z_iload_n rfl rfl dX7_needIsland_4 ?_
  refine z_aload_n rfl rfl dX7_needIsland_5 ?_
  refine m_getR (21) kf_X7_52 (zl_a rfl rfl) rfl rfl (by decide) dX7_needIsland_6 ?_
  refine m_getI kf_X7_213 (zl_a rfl rfl) rfl dX7_needIsland_9 ?_
  refine m_eqv (w := nI ni) (hni) ?_
  refine z_icmp_lt 26 (by decide) dX7_needIsland_12 (z_br (zcn (n := j) (by omega) (ni) (by omega)).2.1 (fun h3 => ?_)) (z_brn (zcn (n := j) (by omega) (ni) (by omega)).2.1 (fun h4 => ?_))
  · exact z_vret (rfl) rfl (by decide) (by decide) dX7_needIsland_26
  · omega
set_option maxRecDepth 100000 in
set_option maxHeartbeats 4000000 in
theorem ctx_X7_needIsland {E : Nat × (Nat → Int32)} {μ : Nat → Nat → Int32} {g : Int64} {ni : Nat} (hni : μ 21 3 = nI ni) (hi20 : ni ≤ 20) {p : Int32} (hp : ¬ zrg ni p) : zCt E kX7_needIsland [.ref (1), .int (p)] (zm μ g) (.inr xI, zm μ g) := by
  refine zCt_of ko_X7_needIsland (Nat.le_of_ble_eq_true rfl) (zas_r (zas_i zas_0)) ⟨Nat.le_refl _, fun h => absurd h (Nat.lt_irrefl _)⟩ (Nat.le_of_ble_eq_true rfl) ?_
  show zV false E kX7_needIsland 145 _ 0 [.ref (1), .int (p)] [] (zm μ g) 0 0
  refine z_iload_n rfl rfl dX7_needIsland_0 ?_
  refine z_if_lt 15 (by decide) dX7_needIsland_1 (fun h1 => ?_) (fun h2 => ?_)
  · exact z_throwW (text := "no such island") (rfl) kt_116 (by decide +kernel) rfl (by decide) (by decide) (by decide) (by decide) dX7_needIsland_15 dX7_needIsland_18 dX7_needIsland_19 dX7_needIsland_22 dX7_needIsland_25
  · refine z_iload_n rfl rfl dX7_needIsland_4 ?_
    refine z_aload_n rfl rfl dX7_needIsland_5 ?_
    refine m_getR (21) kf_X7_52 (zl_a rfl rfl) rfl rfl (by decide) dX7_needIsland_6 ?_
    refine m_getI kf_X7_213 (zl_a rfl rfl) rfl dX7_needIsland_9 ?_
    refine m_eqv (w := nI ni) (hni) ?_
    refine z_icmp_lt 26 (by decide) dX7_needIsland_12 (fun h3 => ?_) (fun h4 => ?_)
    · exact absurd ⟨h2, h3⟩ hp
    · exact z_throwW (text := "no such island") (rfl) kt_116 (by decide +kernel) rfl (by decide) (by decide) (by decide) (by decide) dX7_needIsland_15 dX7_needIsland_18 dX7_needIsland_19 dX7_needIsland_22 dX7_needIsland_25
set_option maxRecDepth 100000 in
set_option maxHeartbeats 4000000 in
theorem ct_X7_needRoomForChart {E : Nat × (Nat → Int32)} {μ : Nat → Nat → Int32} {g : Int64} {nc : Nat} (hnc : μ 1 7 = nI nc) (hn12 : nc ≤ 12) (hr : nc < 12) : zCt E kX7_needRoomForChart [.ref (1)] (zm μ g) (.inl none, zm μ g) := by
  refine zCt_of ko_X7_needRoomForChart (Nat.le_of_ble_eq_true rfl) (zas_r zas_0) ⟨Nat.le_refl _, fun h => absurd h (Nat.lt_irrefl _)⟩ (Nat.le_of_ble_eq_true rfl) ?_
  show zV false E kX7_needRoomForChart 145 _ 0 [.ref (1)] [] (zm μ g) 0 0
  refine z_aload_n rfl rfl dX7_needRoomForChart_0 ?_
  refine m_getI kf_X7_56 (zl_a rfl rfl) rfl dX7_needRoomForChart_1 ?_
  refine m_eqv (w := nI nc) (hnc) ?_
  refine z_bipush (nI 12) (by decide) dX7_needRoomForChart_4 ?_
  refine z_icmp_lt 20 (by decide) dX7_needRoomForChart_6 (z_br (zcn (n := nc) (by omega) (12) (by omega)).2.1 (fun h1 => ?_)) (z_brn (zcn (n := nc) (by omega) (12) (by omega)).2.1 (fun h2 => ?_))
  · exact z_vret (rfl) rfl (by decide) (by decide) dX7_needRoomForChart_20
  · omega
set_option maxRecDepth 100000 in
set_option maxHeartbeats 4000000 in
theorem ctx_X7_needRoomForChart {E : Nat × (Nat → Int32)} {μ : Nat → Nat → Int32} {g : Int64} {nc : Nat} (hnc : μ 1 7 = nI nc) (hn12 : nc ≤ 12) (hr : ¬ nc < 12) : zCt E kX7_needRoomForChart [.ref (1)] (zm μ g) (.inr xS, zm μ g) := by
  refine zCt_of ko_X7_needRoomForChart (Nat.le_of_ble_eq_true rfl) (zas_r zas_0) ⟨Nat.le_refl _, fun h => absurd h (Nat.lt_irrefl _)⟩ (Nat.le_of_ble_eq_true rfl) ?_
  show zV false E kX7_needRoomForChart 145 _ 0 [.ref (1)] [] (zm μ g) 0 0
  refine z_aload_n rfl rfl dX7_needRoomForChart_0 ?_
  refine m_getI kf_X7_56 (zl_a rfl rfl) rfl dX7_needRoomForChart_1 ?_
  refine m_eqv (w := nI nc) (hnc) ?_
  refine z_bipush (nI 12) (by decide) dX7_needRoomForChart_4 ?_
  refine z_icmp_lt 20 (by decide) dX7_needRoomForChart_6 (z_br (zcn (n := nc) (by omega) (12) (by omega)).2.1 (fun h1 => ?_)) (z_brn (zcn (n := nc) (by omega) (12) (by omega)).2.1 (fun h2 => ?_))
  · omega
  · exact z_throwW (text := "there are all the charts") (rfl) kt_87 (by decide +kernel) rfl (by decide) (by decide) (by decide) (by decide) dX7_needRoomForChart_9 dX7_needRoomForChart_12 dX7_needRoomForChart_13 dX7_needRoomForChart_16 dX7_needRoomForChart_19
set_option maxRecDepth 100000 in
set_option maxHeartbeats 4000000 in
theorem ct_X7_chartOf {E : Nat × (Nat → Int32)} {μ : Nat → Nat → Int32} {g : Int64} {nc : Nat} (hnc : μ 1 7 = nI nc) (hn12 : nc ≤ 12) {c : Nat} (hc : c < nc) : zCt E kX7_chartOf [.ref (1), .int (nI c)] (zm μ g) (.inl (some (.ref (33 + 7 * c))), zm μ g) := by
  refine zCt_of ko_X7_chartOf (Nat.le_of_ble_eq_true rfl) (zas_r (zas_i zas_0)) ⟨Nat.le_refl _, fun h => absurd h (Nat.lt_irrefl _)⟩ (Nat.le_of_ble_eq_true rfl) ?_
  show zV false E kX7_chartOf 145 _ 0 [.ref (1), .int (nI c)] [] (zm μ g) 0 0
  refine z_iload_n rfl rfl dX7_chartOf_0 ?_
  refine z_if_lt 12 (by decide) dX7_chartOf_1 (fun h => absurd h (nI_pos (n := c) (by omega))) (fun _ => ?_)
  refine z_iload_n rfl rfl dX7_chartOf_4 ?_
  refine z_aload_n rfl rfl dX7_chartOf_5 ?_
  refine m_getI kf_X7_56 (zl_a rfl rfl) rfl dX7_chartOf_6 ?_
  refine m_eqv (w := nI nc) (hnc) ?_
  refine z_icmp_lt 23 (by decide) dX7_chartOf_9 (z_br (zcn (n := c) (by omega) (nc) (by omega)).2.1 (fun h3 => ?_)) (z_brn (zcn (n := c) (by omega) (nc) (by omega)).2.1 (fun h4 => ?_))
  · refine z_aload_n rfl rfl dX7_chartOf_23 ?_
    refine m_getR (20) kf_X7_45 (zl_a rfl rfl) rfl rfl (by decide) dX7_chartOf_24 ?_
    refine z_iload_n rfl rfl dX7_chartOf_27 ?_
    refine m_aald (c) (33 + 7 * c) (by decide) (zl_a rfl rfl) rfl (by omega) (by decide) rfl (by omega) dX7_chartOf_28 ?_
    exact z_aret (rfl) rfl (by decide) (by decide) dX7_chartOf_29
  · omega
set_option maxRecDepth 100000 in
set_option maxHeartbeats 4000000 in
theorem ctx_X7_chartOf {E : Nat × (Nat → Int32)} {μ : Nat → Nat → Int32} {g : Int64} {nc : Nat} (hnc : μ 1 7 = nI nc) (hn12 : nc ≤ 12) {p : Int32} (hp : ¬ zrg nc p) : zCt E kX7_chartOf [.ref (1), .int (p)] (zm μ g) (.inr xI, zm μ g) := by
  refine zCt_of ko_X7_chartOf (Nat.le_of_ble_eq_true rfl) (zas_r (zas_i zas_0)) ⟨Nat.le_refl _, fun h => absurd h (Nat.lt_irrefl _)⟩ (Nat.le_of_ble_eq_true rfl) ?_
  show zV false E kX7_chartOf 145 _ 0 [.ref (1), .int (p)] [] (zm μ g) 0 0
  refine z_iload_n rfl rfl dX7_chartOf_0 ?_
  refine z_if_lt 12 (by decide) dX7_chartOf_1 (fun h1 => ?_) (fun h2 => ?_)
  · exact z_throwW (text := "no such chart") (rfl) kt_116 (by decide +kernel) rfl (by decide) (by decide) (by decide) (by decide) dX7_chartOf_12 dX7_chartOf_15 dX7_chartOf_16 dX7_chartOf_19 dX7_chartOf_22
  · refine z_iload_n rfl rfl dX7_chartOf_4 ?_
    refine z_aload_n rfl rfl dX7_chartOf_5 ?_
    refine m_getI kf_X7_56 (zl_a rfl rfl) rfl dX7_chartOf_6 ?_
    refine m_eqv (w := nI nc) (hnc) ?_
    refine z_icmp_lt 23 (by decide) dX7_chartOf_9 (fun h3 => ?_) (fun h4 => ?_)
    · exact absurd ⟨h2, h3⟩ hp
    · exact z_throwW (text := "no such chart") (rfl) kt_116 (by decide +kernel) rfl (by decide) (by decide) (by decide) (by decide) dX7_chartOf_12 dX7_chartOf_15 dX7_chartOf_16 dX7_chartOf_19 dX7_chartOf_22
set_option maxRecDepth 100000 in
set_option maxHeartbeats 4000000 in
theorem ct_X7_copyistOf {E : Nat × (Nat → Int32)} {μ : Nat → Nat → Int32} {g : Int64} {c : Nat} (hc : c < 4) : zCt E kX7_copyistOf [.ref (1), .int (nI c)] (zm μ g) (.inl (some (.ref (25 + 2 * c))), zm μ g) := by
  refine zCt_of ko_X7_copyistOf (Nat.le_of_ble_eq_true rfl) (zas_r (zas_i zas_0)) ⟨Nat.le_refl _, fun h => absurd h (Nat.lt_irrefl _)⟩ (Nat.le_of_ble_eq_true rfl) ?_
  show zV false E kX7_copyistOf 145 _ 0 [.ref (1), .int (nI c)] [] (zm μ g) 0 0
  refine z_iload_n rfl rfl dX7_copyistOf_0 ?_
  refine z_if_lt 9 (by decide) dX7_copyistOf_1 (fun h => absurd h (nI_pos (n := c) (by omega))) (fun _ => ?_)
  refine z_iload_n rfl rfl dX7_copyistOf_4 ?_
  refine z_iconst (nI 4) (by decide) dX7_copyistOf_5 ?_
  refine z_icmp_lt 20 (by decide) dX7_copyistOf_6 (z_br (zcn (n := c) (by omega) (4) (by omega)).2.1 (fun h3 => ?_)) (z_brn (zcn (n := c) (by omega) (4) (by omega)).2.1 (fun h4 => ?_))
  · refine z_aload_n rfl rfl dX7_copyistOf_20 ?_
    refine m_getR (19) kf_X7_39 (zl_a rfl rfl) rfl rfl (by decide) dX7_copyistOf_21 ?_
    refine z_iload_n rfl rfl dX7_copyistOf_24 ?_
    refine m_aald (c) (25 + 2 * c) (by decide) (zl_a rfl rfl) rfl (by omega) (by decide) rfl (by omega) dX7_copyistOf_25 ?_
    exact z_aret (rfl) rfl (by decide) (by decide) dX7_copyistOf_26
  · omega
set_option maxRecDepth 100000 in
set_option maxHeartbeats 4000000 in
theorem ctx_X7_copyistOf {E : Nat × (Nat → Int32)} {μ : Nat → Nat → Int32} {g : Int64} {p : Int32} (hp : ¬ zrg 4 p) : zCt E kX7_copyistOf [.ref (1), .int (p)] (zm μ g) (.inr xI, zm μ g) := by
  refine zCt_of ko_X7_copyistOf (Nat.le_of_ble_eq_true rfl) (zas_r (zas_i zas_0)) ⟨Nat.le_refl _, fun h => absurd h (Nat.lt_irrefl _)⟩ (Nat.le_of_ble_eq_true rfl) ?_
  show zV false E kX7_copyistOf 145 _ 0 [.ref (1), .int (p)] [] (zm μ g) 0 0
  refine z_iload_n rfl rfl dX7_copyistOf_0 ?_
  refine z_if_lt 9 (by decide) dX7_copyistOf_1 (fun h1 => ?_) (fun h2 => ?_)
  · exact z_throwW (text := "no such copyist") (rfl) kt_116 (by decide +kernel) rfl (by decide) (by decide) (by decide) (by decide) dX7_copyistOf_9 dX7_copyistOf_12 dX7_copyistOf_13 dX7_copyistOf_16 dX7_copyistOf_19
  · refine z_iload_n rfl rfl dX7_copyistOf_4 ?_
    refine z_iconst (nI 4) (by decide) dX7_copyistOf_5 ?_
    refine z_icmp_lt 20 (by decide) dX7_copyistOf_6 (fun h3 => ?_) (fun h4 => ?_)
    · exact absurd ⟨h2, h3⟩ hp
    · exact z_throwW (text := "no such copyist") (rfl) kt_116 (by decide +kernel) rfl (by decide) (by decide) (by decide) (by decide) dX7_copyistOf_9 dX7_copyistOf_12 dX7_copyistOf_13 dX7_copyistOf_16 dX7_copyistOf_19
set_option maxRecDepth 100000 in
set_option maxHeartbeats 4000000 in
theorem ct_X7_drawn {E : Nat × (Nat → Int32)} {μ : Nat → Nat → Int32} {g : Int64} (x way h : Int32) : zCt E kX7_drawn [.int (x), .int (way), .int (h)] (zm μ g) (.inl (some (.int (zdraw x way h))), zm μ g) := by
  refine zCt_of ko_X7_drawn (Nat.le_of_ble_eq_true rfl) (zas_i (zas_i (zas_i zas_0))) ⟨Nat.le_refl _, fun h => absurd h (Nat.lt_irrefl _)⟩ (Nat.le_of_ble_eq_true rfl) ?_
  show zV false E kX7_drawn 145 _ 0 [.int (x), .int (way), .int (h)] [] (zm μ g) 0 0
  refine z_iload_n rfl rfl dX7_drawn_0 ?_
  by_cases w1 : way = 1
  · refine z_look 27 28 (by decide) (by rw [w1]; decide) (by decide) dX7_drawn_1 ?_
    refine z_iload_n rfl rfl dX7_drawn_28 ?_
    refine z_iconst (nI 5) (by decide) dX7_drawn_29 ?_
    refine z_idiv (by decide) dX7_drawn_30 ?_
    refine z_iconst (nI 5) (by decide) dX7_drawn_31 ?_
    refine z_imul dX7_drawn_32 ?_
    exact z_iret (by simp [zdraw, w1]) rfl (znarI _) (by decide) (by decide) dX7_drawn_33
  · by_cases w2 : way = 2
    · refine z_look 33 34 (by decide) (by rw [w2]; decide) (by decide) dX7_drawn_1 ?_
      refine z_iload_n rfl rfl dX7_drawn_34 ?_
      refine z_iload_n rfl rfl dX7_drawn_35 ?_
      refine z_iadd dX7_drawn_36 ?_
      exact z_iret (by simp [zdraw, w2]) rfl (znarI _) (by decide) (by decide) dX7_drawn_37
    · refine z_look 37 38 (by decide) ((lv_osw w1 (by decide)).trans (lv_osw w2 (by decide))) (by decide) dX7_drawn_1 ?_
      refine z_iload_n rfl rfl dX7_drawn_38 ?_
      exact z_iret (by simp [zdraw, w1, w2]) rfl (znarI _) (by decide) (by decide) dX7_drawn_39
set_option maxRecDepth 100000 in
set_option maxHeartbeats 4000000 in
theorem ct_X7_sourceOf {E : Nat × (Nat → Int32)} {μ : Nat → Nat → Int32} {g : Int64} {nc : Nat} (hnc : μ 1 7 = nI nc) (hn12 : nc ≤ 12) {p : Nat} (hp : p < 24) (l : Int32) : zCt E kX7_sourceOf [.ref (1), .int (l), .int (nI p)] (zm μ g) (.inl (some (.int (zsrc μ nc p l))), zm μ g) := by
  refine zCt_of ko_X7_sourceOf (Nat.le_of_ble_eq_true rfl) (zas_r (zas_i (zas_i zas_0))) ⟨Nat.le_refl _, fun h => absurd h (Nat.lt_irrefl _)⟩ (Nat.le_of_ble_eq_true rfl) ?_
  show zV false E kX7_sourceOf 145 _ 0 [.ref (1), .int (l), .int (nI p)] [] (zm μ g) 0 0
  refine z_iload_n rfl rfl dX7_sourceOf_0 ?_
  refine z_if_lt 26 (by decide) dX7_sourceOf_1 (fun h1 => ?_) (fun h2 => ?_)
  · refine z_iconst (-1) (by decide) dX7_sourceOf_26 ?_
    exact z_iret (by rw [zsrc, if_neg (fun q => q.1 h1)]) rfl (znarI _) (by decide) (by decide) dX7_sourceOf_27
  · refine z_iload_n rfl rfl dX7_sourceOf_4 ?_
    refine z_aload_n rfl rfl dX7_sourceOf_5 ?_
    refine m_getI kf_X7_56 (zl_a rfl rfl) rfl dX7_sourceOf_6 ?_
    refine m_eqv (w := nI nc) (hnc) ?_
    refine z_icmp_ge 26 (by decide) dX7_sourceOf_9 (fun h3 => ?_) (fun h4 => ?_)
    · refine z_iconst (-1) (by decide) dX7_sourceOf_26 ?_
      exact z_iret (by rw [zsrc, if_neg (fun q => Int32.not_lt.mpr h3 q.2)]) rfl (znarI _) (by decide) (by decide) dX7_sourceOf_27
    · obtain ⟨j, hj, ej⟩ := zrg_of (n := nc) (p := l) ⟨h2, Int32.not_le.mp h4⟩ (by omega)
      refine z_aload_n rfl rfl dX7_sourceOf_12 ?_
      refine m_getR (20) kf_X7_45 (zl_a rfl rfl) rfl rfl (by decide) dX7_sourceOf_13 ?_
      refine z_iload_n rfl rfl dX7_sourceOf_16 ?_
      refine m_aald (j) (33 + 7 * j) (by decide) (zl_a rfl rfl) ej (by omega) (by decide) rfl (by omega) dX7_sourceOf_17 ?_
      refine m_getR (37 + 7 * j) kf_X7_244 (zc0 (by omega)) rfl (zl_rc (by omega)).2.2.2.1 (by omega) dX7_sourceOf_18 ?_
      refine z_iload_n rfl rfl dX7_sourceOf_21 ?_
      refine m_iald (p) (zc4 (by omega)) rfl (by omega) (by decide) dX7_sourceOf_22 ?_
      refine z_goto 27 (by decide) dX7_sourceOf_23 ?_
      exact z_iret (by rw [ej, zsrc_n hj hn12]) rfl (znarI _) (by decide) (by decide) dX7_sourceOf_27
set_option maxRecDepth 100000 in
set_option maxHeartbeats 4000000 in
theorem ct_X7_errorOfX {E : Nat × (Nat → Int32)} {μ : Nat → Nat → Int32} {g : Int64} {c p : Nat} (hc : c < 12) (hp : p < 24) : zCt E kX7_errorOf [.ref (1), .ref (33 + 7 * c), .int (nI p), .int (nI 1)] (zm μ g) (.inl (some (.int (μ (34 + 7 * c) p - μ 3 p))), zm μ g) := by
  refine zCt_of ko_X7_errorOf (Nat.le_of_ble_eq_true rfl) (zas_r (zas_r (zas_i (zas_i zas_0)))) ⟨Nat.le_refl _, fun h => absurd h (Nat.lt_irrefl _)⟩ (Nat.le_of_ble_eq_true rfl) ?_
  show zV false E kX7_errorOf 145 _ 0 [.ref (1), .ref (33 + 7 * c), .int (nI p), .int (nI 1)] [] (zm μ g) 0 0
  refine z_iload_n rfl rfl dX7_errorOf_0 ?_
  refine z_if_eq 23 (by decide) dX7_errorOf_1 (fun h => absurd h (by decide)) (fun _ => ?_)
  refine z_aload_n rfl rfl dX7_errorOf_4 ?_
  refine m_getR (34 + 7 * c) kf_X7_182 (zc0 (by omega)) rfl (zl_rc (by omega)).1 (by omega) dX7_errorOf_5 ?_
  refine z_iload_n rfl rfl dX7_errorOf_8 ?_
  refine m_iald (p) (zc1 (by omega)) rfl (by omega) (by decide) dX7_errorOf_9 ?_
  refine z_aload_n rfl rfl dX7_errorOf_10 ?_
  refine m_getR (2) kf_X7_10 (zl_a rfl rfl) rfl rfl (by decide) dX7_errorOf_11 ?_
  refine m_getR (3) kf_X7_92 (zl_a rfl rfl) rfl rfl (by decide) dX7_errorOf_14 ?_
  refine z_iload_n rfl rfl dX7_errorOf_17 ?_
  refine m_iald (p) (zl_a rfl rfl) rfl (by omega) (by decide) dX7_errorOf_18 ?_
  refine z_isub dX7_errorOf_19 ?_
  refine z_goto 39 (by decide) dX7_errorOf_20 ?_
  exact z_iret (rfl) rfl (znarI _) (by decide) (by decide) dX7_errorOf_39
set_option maxRecDepth 100000 in
set_option maxHeartbeats 4000000 in
theorem ct_X7_errorOfY {E : Nat × (Nat → Int32)} {μ : Nat → Nat → Int32} {g : Int64} {c p : Nat} (hc : c < 12) (hp : p < 24) : zCt E kX7_errorOf [.ref (1), .ref (33 + 7 * c), .int (nI p), .int (nI 0)] (zm μ g) (.inl (some (.int (μ (35 + 7 * c) p - μ 4 p))), zm μ g) := by
  refine zCt_of ko_X7_errorOf (Nat.le_of_ble_eq_true rfl) (zas_r (zas_r (zas_i (zas_i zas_0)))) ⟨Nat.le_refl _, fun h => absurd h (Nat.lt_irrefl _)⟩ (Nat.le_of_ble_eq_true rfl) ?_
  show zV false E kX7_errorOf 145 _ 0 [.ref (1), .ref (33 + 7 * c), .int (nI p), .int (nI 0)] [] (zm μ g) 0 0
  refine z_iload_n rfl rfl dX7_errorOf_0 ?_
  refine z_if_eq 23 (by decide) dX7_errorOf_1 (fun _ => ?_) (fun h => absurd h (by decide))
  refine z_aload_n rfl rfl dX7_errorOf_23 ?_
  refine m_getR (35 + 7 * c) kf_X7_187 (zc0 (by omega)) rfl (zl_rc (by omega)).2.1 (by omega) dX7_errorOf_24 ?_
  refine z_iload_n rfl rfl dX7_errorOf_27 ?_
  refine m_iald (p) (zc2 (by omega)) rfl (by omega) (by decide) dX7_errorOf_28 ?_
  refine z_aload_n rfl rfl dX7_errorOf_29 ?_
  refine m_getR (2) kf_X7_10 (zl_a rfl rfl) rfl rfl (by decide) dX7_errorOf_30 ?_
  refine m_getR (4) kf_X7_96 (zl_a rfl rfl) rfl rfl (by decide) dX7_errorOf_33 ?_
  refine z_iload_n rfl rfl dX7_errorOf_36 ?_
  refine m_iald (p) (zl_a rfl rfl) rfl (by omega) (by decide) dX7_errorOf_37 ?_
  refine z_isub dX7_errorOf_38 ?_
  exact z_iret (rfl) rfl (znarI _) (by decide) (by decide) dX7_errorOf_39
set_option maxRecDepth 100000 in
set_option maxHeartbeats 4000000 in
theorem ct_X7_errorOf {E : Nat × (Nat → Int32)} {μ : Nat → Nat → Int32} {g : Int64} {c p : Nat} (hc : c < 12) (hp : p < 24) (q : Prop) [Decidable q] : zCt E kX7_errorOf [.ref (1), .ref (33 + 7 * c), .int (nI p), .int (zb (q))] (zm μ g) (.inl (some (.int (zerr μ c p q))), zm μ g) := by
  refine zCt_of ko_X7_errorOf (Nat.le_of_ble_eq_true rfl) (zas_r (zas_r (zas_i (zas_i zas_0)))) ⟨Nat.le_refl _, fun h => absurd h (Nat.lt_irrefl _)⟩ (Nat.le_of_ble_eq_true rfl) ?_
  show zV false E kX7_errorOf 145 _ 0 [.ref (1), .ref (33 + 7 * c), .int (nI p), .int (zb (q))] [] (zm μ g) 0 0
  refine z_iload_n rfl rfl dX7_errorOf_0 ?_
  refine z_if_eq 23 (by decide) dX7_errorOf_1 (z_br zb_0 (fun h1 => ?_)) (z_br zb_n (fun h2 => ?_))
  · refine z_aload_n rfl rfl dX7_errorOf_23 ?_
    refine m_getR (35 + 7 * c) kf_X7_187 (zc0 (by omega)) rfl (zl_rc (by omega)).2.1 (by omega) dX7_errorOf_24 ?_
    refine z_iload_n rfl rfl dX7_errorOf_27 ?_
    refine m_iald (p) (zc2 (by omega)) rfl (by omega) (by decide) dX7_errorOf_28 ?_
    refine z_aload_n rfl rfl dX7_errorOf_29 ?_
    refine m_getR (2) kf_X7_10 (zl_a rfl rfl) rfl rfl (by decide) dX7_errorOf_30 ?_
    refine m_getR (4) kf_X7_96 (zl_a rfl rfl) rfl rfl (by decide) dX7_errorOf_33 ?_
    refine z_iload_n rfl rfl dX7_errorOf_36 ?_
    refine m_iald (p) (zl_a rfl rfl) rfl (by omega) (by decide) dX7_errorOf_37 ?_
    refine z_isub dX7_errorOf_38 ?_
    exact z_iret (by rw [zerr, if_neg h1]) rfl (znarI _) (by decide) (by decide) dX7_errorOf_39
  · refine z_aload_n rfl rfl dX7_errorOf_4 ?_
    refine m_getR (34 + 7 * c) kf_X7_182 (zc0 (by omega)) rfl (zl_rc (by omega)).1 (by omega) dX7_errorOf_5 ?_
    refine z_iload_n rfl rfl dX7_errorOf_8 ?_
    refine m_iald (p) (zc1 (by omega)) rfl (by omega) (by decide) dX7_errorOf_9 ?_
    refine z_aload_n rfl rfl dX7_errorOf_10 ?_
    refine m_getR (2) kf_X7_10 (zl_a rfl rfl) rfl rfl (by decide) dX7_errorOf_11 ?_
    refine m_getR (3) kf_X7_92 (zl_a rfl rfl) rfl rfl (by decide) dX7_errorOf_14 ?_
    refine z_iload_n rfl rfl dX7_errorOf_17 ?_
    refine m_iald (p) (zl_a rfl rfl) rfl (by omega) (by decide) dX7_errorOf_18 ?_
    refine z_isub dX7_errorOf_19 ?_
    refine z_goto 39 (by decide) dX7_errorOf_20 ?_
    exact z_iret (by rw [zerr, if_pos h2]) rfl (znarI _) (by decide) (by decide) dX7_errorOf_39
set_option maxRecDepth 100000 in
set_option maxHeartbeats 4000000 in
theorem ct_X7_hasTrueName {E : Nat × (Nat → Int32)} {μ : Nat → Nat → Int32} {g : Int64} {c p : Nat} (hc : c < 12) (hp : p < 24) : zCt E kX7_hasTrueName [.ref (1), .ref (33 + 7 * c), .int (nI p)] (zm μ g) (.inl (some (.int (zb (ztn μ c p)))), zm μ g) := by
  refine zCt_of ko_X7_hasTrueName (Nat.le_of_ble_eq_true rfl) (zas_r (zas_r (zas_i zas_0))) ⟨Nat.le_refl _, fun h => absurd h (Nat.lt_irrefl _)⟩ (Nat.le_of_ble_eq_true rfl) ?_
  show zV false E kX7_hasTrueName 145 _ 0 [.ref (1), .ref (33 + 7 * c), .int (nI p)] [] (zm μ g) 0 0
  refine z_aload_n rfl rfl dX7_hasTrueName_0 ?_
  refine m_getR (36 + 7 * c) kf_X7_143 (zc0 (by omega)) rfl (zl_rc (by omega)).2.2.1 (by omega) dX7_hasTrueName_1 ?_
  refine z_iload_n rfl rfl dX7_hasTrueName_4 ?_
  refine m_iald (p) (zc3 (by omega)) rfl (by omega) (by decide) dX7_hasTrueName_5 ?_
  refine z_aload_n rfl rfl dX7_hasTrueName_6 ?_
  refine m_getR (2) kf_X7_10 (zl_a rfl rfl) rfl rfl (by decide) dX7_hasTrueName_7 ?_
  refine m_getR (5) kf_X7_99 (zl_a rfl rfl) rfl rfl (by decide) dX7_hasTrueName_10 ?_
  refine z_iload_n rfl rfl dX7_hasTrueName_13 ?_
  refine m_iald (p) (zl_a rfl rfl) rfl (by omega) (by decide) dX7_hasTrueName_14 ?_
  refine z_icmp_ne 22 (by decide) dX7_hasTrueName_15 (fun h1 => ?_) (fun h2 => ?_)
  · refine z_iconst (nI 0) (by decide) dX7_hasTrueName_22 ?_
    exact z_iret (zleafF h1) rfl rfl (by decide) (by decide) dX7_hasTrueName_23
  · refine z_iconst (nI 1) (by decide) dX7_hasTrueName_18 ?_
    refine z_goto 23 (by decide) dX7_hasTrueName_19 ?_
    exact z_iret (zleafT h2) rfl rfl (by decide) (by decide) dX7_hasTrueName_23
set_option maxRecDepth 100000 in
set_option maxHeartbeats 4000000 in
theorem ct_X7_shareError {E : Nat × (Nat → Int32)} {μ : Nat → Nat → Int32} {g : Int64} {c d p : Nat} (hc : c < 12) (hd : d < 12) (hp : p < 24) : zCt E kX7_shareError [.ref (1), .ref (33 + 7 * c), .ref (33 + 7 * d), .int (nI p)] (zm μ g) (.inl (some (.int (zb (zshe μ c d p)))), zm μ g) := by
  refine zCt_of ko_X7_shareError (Nat.le_of_ble_eq_true rfl) (zas_r (zas_r (zas_r (zas_i zas_0)))) ⟨Nat.le_refl _, fun h => absurd h (Nat.lt_irrefl _)⟩ (Nat.le_of_ble_eq_true rfl) ?_
  show zV false E kX7_shareError 145 _ 0 [.ref (1), .ref (33 + 7 * c), .ref (33 + 7 * d), .int (nI p), .null] [] (zm μ g) 0 0
  refine z_aload_n rfl rfl dX7_shareError_0 ?_
  refine z_iload_n rfl rfl dX7_shareError_1 ?_
  refine z_callV (as := [.int (nI p)]) (ct_X0_knows (c := c) (p := p) (by omega) (by omega)) ko_X0_knows kl_X7_179 rfl (zc0 (by omega)) rfl rfl ⟨by decide, by decide, by decide, by decide⟩ (by decide) rfl dX7_shareError_2 ?_
  refine z_if_eq 16 (by decide) dX7_shareError_5 (z_br zb_0 (fun h1 => ?_)) (z_br zb_n (fun h2 => ?_))
  · refine z_iconst (nI 0) (by decide) dX7_shareError_16 ?_
    exact z_iret (zleafF (by simp_all)) rfl rfl (by decide) (by decide) dX7_shareError_17
  · refine z_aload_n rfl rfl dX7_shareError_8 ?_
    refine z_iload_n rfl rfl dX7_shareError_9 ?_
    refine z_callV (as := [.int (nI p)]) (ct_X0_knows (c := d) (p := p) (by omega) (by omega)) ko_X0_knows kl_X7_179 rfl (zc0 (by omega)) rfl rfl ⟨by decide, by decide, by decide, by decide⟩ (by decide) rfl dX7_shareError_10 ?_
    refine z_if_ne 18 (by decide) dX7_shareError_13 (z_br zb_n (fun h3 => ?_)) (z_br zb_0 (fun h4 => ?_))
    · refine z_aload_n rfl rfl dX7_shareError_18 ?_
      refine m_getR (34 + 7 * c) kf_X7_182 (zc0 (by omega)) rfl (zl_rc (by omega)).1 (by omega) dX7_shareError_19 ?_
      refine z_iload_n rfl rfl dX7_shareError_22 ?_
      refine m_iald (p) (zc1 (by omega)) rfl (by omega) (by decide) dX7_shareError_23 ?_
      refine z_aload_n rfl rfl dX7_shareError_24 ?_
      refine m_getR (34 + 7 * d) kf_X7_182 (zc0 (by omega)) rfl (zl_rc (by omega)).1 (by omega) dX7_shareError_25 ?_
      refine z_iload_n rfl rfl dX7_shareError_28 ?_
      refine m_iald (p) (zc1 (by omega)) rfl (by omega) (by decide) dX7_shareError_29 ?_
      refine z_icmp_ne 52 (by decide) dX7_shareError_30 (fun h5 => ?_) (fun h6 => ?_)
      · refine z_iconst (nI 0) (by decide) dX7_shareError_52 ?_
        refine z_istore (by decide) rfl dX7_shareError_53 ?_
        refine z_iload rfl dX7_shareError_55 ?_
        refine z_if_eq 84 (by decide) dX7_shareError_57 (fun _ => ?_) (fun h => absurd h (by decide))
        refine z_iconst (nI 0) (by decide) dX7_shareError_84 ?_
        exact z_iret (zleafF (by simp_all)) rfl rfl (by decide) (by decide) dX7_shareError_85
      · refine z_aload_n rfl rfl dX7_shareError_33 ?_
        refine m_getR (35 + 7 * c) kf_X7_187 (zc0 (by omega)) rfl (zl_rc (by omega)).2.1 (by omega) dX7_shareError_34 ?_
        refine z_iload_n rfl rfl dX7_shareError_37 ?_
        refine m_iald (p) (zc2 (by omega)) rfl (by omega) (by decide) dX7_shareError_38 ?_
        refine z_aload_n rfl rfl dX7_shareError_39 ?_
        refine m_getR (35 + 7 * d) kf_X7_187 (zc0 (by omega)) rfl (zl_rc (by omega)).2.1 (by omega) dX7_shareError_40 ?_
        refine z_iload_n rfl rfl dX7_shareError_43 ?_
        refine m_iald (p) (zc2 (by omega)) rfl (by omega) (by decide) dX7_shareError_44 ?_
        refine z_icmp_ne 52 (by decide) dX7_shareError_45 (fun h7 => ?_) (fun h8 => ?_)
        · refine z_iconst (nI 0) (by decide) dX7_shareError_52 ?_
          refine z_istore (by decide) rfl dX7_shareError_53 ?_
          refine z_iload rfl dX7_shareError_55 ?_
          refine z_if_eq 84 (by decide) dX7_shareError_57 (fun _ => ?_) (fun h => absurd h (by decide))
          refine z_iconst (nI 0) (by decide) dX7_shareError_84 ?_
          exact z_iret (zleafF (by simp_all)) rfl rfl (by decide) (by decide) dX7_shareError_85
        · refine z_iconst (nI 1) (by decide) dX7_shareError_48 ?_
          refine z_goto 53 (by decide) dX7_shareError_49 ?_
          refine z_istore (by decide) rfl dX7_shareError_53 ?_
          refine z_iload rfl dX7_shareError_55 ?_
          refine z_if_eq 84 (by decide) dX7_shareError_57 (fun h => absurd h (by decide)) (fun _ => ?_)
          refine z_aload_n rfl rfl dX7_shareError_60 ?_
          refine z_aload_n rfl rfl dX7_shareError_61 ?_
          refine z_iload_n rfl rfl dX7_shareError_62 ?_
          refine z_iconst (nI 1) (by decide) dX7_shareError_63 ?_
          refine z_callV (as := [.ref (33 + 7 * c), .int (nI p), .int (nI 1)]) (ct_X7_errorOfX (c := c) (p := p) (by omega) (by omega)) ko_X7_errorOf kl_X7_247 rfl (zl_a rfl rfl) rfl rfl ⟨by decide, by decide, by decide, by decide⟩ (by decide) rfl dX7_shareError_64 ?_
          refine z_if_ne 80 (by decide) dX7_shareError_67 (fun h9 => ?_) (fun h10 => ?_)
          · refine z_iconst (nI 1) (by decide) dX7_shareError_80 ?_
            refine z_goto 85 (by decide) dX7_shareError_81 ?_
            exact z_iret (zleafT ⟨by assumption, by assumption, by assumption, by assumption, by first | exact Or.inl (by assumption) | exact Or.inr (by assumption)⟩) rfl rfl (by decide) (by decide) dX7_shareError_85
          · refine z_aload_n rfl rfl dX7_shareError_70 ?_
            refine z_aload_n rfl rfl dX7_shareError_71 ?_
            refine z_iload_n rfl rfl dX7_shareError_72 ?_
            refine z_iconst (nI 0) (by decide) dX7_shareError_73 ?_
            refine z_callV (as := [.ref (33 + 7 * c), .int (nI p), .int (nI 0)]) (ct_X7_errorOfY (c := c) (p := p) (by omega) (by omega)) ko_X7_errorOf kl_X7_247 rfl (zl_a rfl rfl) rfl rfl ⟨by decide, by decide, by decide, by decide⟩ (by decide) rfl dX7_shareError_74 ?_
            refine z_if_eq 84 (by decide) dX7_shareError_77 (fun h11 => ?_) (fun h12 => ?_)
            · refine z_iconst (nI 0) (by decide) dX7_shareError_84 ?_
              exact z_iret (zleafF (by simp_all)) rfl rfl (by decide) (by decide) dX7_shareError_85
            · refine z_iconst (nI 1) (by decide) dX7_shareError_80 ?_
              refine z_goto 85 (by decide) dX7_shareError_81 ?_
              exact z_iret (zleafT ⟨by assumption, by assumption, by assumption, by assumption, by first | exact Or.inl (by assumption) | exact Or.inr (by assumption)⟩) rfl rfl (by decide) (by decide) dX7_shareError_85
    · refine z_iconst (nI 0) (by decide) dX7_shareError_16 ?_
      exact z_iret (zleafF (by simp_all)) rfl rfl (by decide) (by decide) dX7_shareError_17
set_option maxRecDepth 100000 in
set_option maxHeartbeats 4000000 in
theorem ct_X2_readingOf {E : Nat × (Nat → Int32)} {μ : Nat → Nat → Int32} {g : Int64} {c : Nat} (hc : c < 4) {j : Nat} (h1j : 1 ≤ j) (hj : j < 100) : zCt E kX2_readingOf [.ref (25 + 2 * c), .int (nI j)] (zm μ g) (.inl (some (.int (μ (26 + 2 * c) j))), zm μ g) := by
  refine zCt_of ko_X2_readingOf (Nat.le_of_ble_eq_true rfl) (zas_r (zas_i zas_0)) ⟨Nat.le_refl _, fun h => absurd h (Nat.lt_irrefl _)⟩ (Nat.le_of_ble_eq_true rfl) ?_
  show zV false E kX2_readingOf 145 _ 0 [.ref (25 + 2 * c), .int (nI j)] [] (zm μ g) 0 0
  refine z_iload_n rfl rfl dX2_readingOf_0 ?_
  refine z_callSN (as := [.int (nI j)]) (ct_X7_isName (nI j)) ko_X7_isName kl_X2_19 rfl rfl ⟨by decide, by decide, by decide, by decide⟩ (by decide) rfl dX2_readingOf_1 ?_
  refine z_if_eq 16 (by decide) dX2_readingOf_4 (z_br zb_0 (fun h1 => ?_)) (z_br zb_n (fun h2 => ?_))
  · exact absurd ⟨fun q => absurd ((nI_ltI (by omega) (by decide)).mp q) (by omega), fun q => absurd ((nI_ltI (by decide) (by omega)).mp q) (by omega)⟩ h1
  · refine z_aload_n rfl rfl dX2_readingOf_7 ?_
    refine m_getR (26 + 2 * c) kf_X2_15 (zy0 (by omega)) rfl (zl_ry (by omega)) (by omega) dX2_readingOf_8 ?_
    refine z_iload_n rfl rfl dX2_readingOf_11 ?_
    refine m_iald (j) (zy1 (by omega)) rfl (by omega) (by decide) dX2_readingOf_12 ?_
    refine z_goto 17 (by decide) dX2_readingOf_13 ?_
    exact z_iret (rfl) rfl (znarI _) (by decide) (by decide) dX2_readingOf_17
set_option maxRecDepth 100000 in
set_option maxHeartbeats 4000000 in
theorem ct_X6_give {E : Nat × (Nat → Int32)} {μ : Nat → Nat → Int32} {g : Int64} {p : Nat} (hp : p < 24) (x y : Int32) : zCt E kX6_give [.ref (15), .int (nI p), .int (x), .int (y)] (zm μ g) (.inl none, zm (zgive μ p x y) g) := by
  refine zCt_of ko_X6_give (Nat.le_of_ble_eq_true rfl) (zas_r (zas_i (zas_i (zas_i zas_0)))) ⟨Nat.le_refl _, fun h => absurd h (Nat.lt_irrefl _)⟩ (Nat.le_of_ble_eq_true rfl) ?_
  show zV false E kX6_give 145 _ 0 [.ref (15), .int (nI p), .int (x), .int (y)] [] (zm μ g) 0 0
  refine z_aload_n rfl rfl dX6_give_0 ?_
  refine m_getR (16) kf_X6_9 (zl_a rfl rfl) rfl rfl (by decide) dX6_give_1 ?_
  refine z_iload_n rfl rfl dX6_give_4 ?_
  refine z_dup2 rfl rfl dX6_give_5 ?_
  refine m_iald (p) (zl_a rfl rfl) rfl (by omega) (by decide) dX6_give_6 ?_
  refine z_iload_n rfl rfl dX6_give_7 ?_
  refine z_iadd dX6_give_8 ?_
  refine m_iast (p) (zl_a rfl rfl) rfl (by omega) (by decide) dX6_give_9 ?_
  refine z_aload_n rfl rfl dX6_give_10 ?_
  refine m_getR (17) kf_X6_15 (zl_a rfl rfl) rfl rfl (by decide) dX6_give_11 ?_
  refine z_iload_n rfl rfl dX6_give_14 ?_
  refine z_dup2 rfl rfl dX6_give_15 ?_
  refine m_iald (p) (zl_a rfl rfl) rfl (by omega) (by decide) dX6_give_16 ?_
  refine z_iload_n rfl rfl dX6_give_17 ?_
  refine z_iadd dX6_give_18 ?_
  refine m_iast (p) (zl_a rfl rfl) rfl (by omega) (by decide) dX6_give_19 ?_
  refine z_aload_n rfl rfl dX6_give_20 ?_
  refine m_getR (18) kf_X6_18 (zl_a rfl rfl) rfl rfl (by decide) dX6_give_21 ?_
  refine z_iload_n rfl rfl dX6_give_24 ?_
  refine z_dup2 rfl rfl dX6_give_25 ?_
  refine m_iald (p) (zl_a rfl rfl) rfl (by omega) (by decide) dX6_give_26 ?_
  refine z_iconst (nI 1) (by decide) dX6_give_27 ?_
  refine z_iadd dX6_give_28 ?_
  refine m_iast (p) (zl_a rfl rfl) rfl (by omega) (by decide) dX6_give_29 ?_
  exact z_vret (rfl) rfl (by decide) (by decide) dX6_give_30
end
