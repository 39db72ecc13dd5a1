section
-- ===== PART A: goes FIRST, ahead of the names: the tables' words, and 'selects' of the private methods out of them =====
/-- a private method of a class that the tables say can be made, by its rows of tables_1 -/
def lw_okq (q : MethodName × Nat) : Prop := (q.1.cls ≠ "java/lang/invoke/MethodHandle" ∧ q.1.cls ≠ "java/lang/invoke/VarHandle") ∧ Cond.instantiable q.1.cls q.2 ∈ tables_1 ∧ Cond.privateMethod q.1 ∈ tables_1 ∧ Cond.instanceMethod q.1 ∈ tables_1
theorem lw_p0 : lw_okq (⟨"NurseryRow", "layParts", "(III)V"⟩, 10) := ⟨⟨by decide +kernel, by decide +kernel⟩, List.mem_of_getElem? (i := 22) (by decide +kernel), List.mem_of_getElem? (i := 54) (by decide +kernel), List.mem_of_getElem? (i := 55) (by decide +kernel)⟩
theorem lw_p1 : lw_okq (⟨"java/lang/Throwable", "fillInStackTrace", "(I)Ljava/lang/Throwable;"⟩, 6) := ⟨⟨by decide +kernel, by decide +kernel⟩, List.mem_of_getElem? (i := 147) (by decide +kernel), List.mem_of_getElem? (i := 145) (by decide +kernel), List.mem_of_getElem? (i := 146) (by decide +kernel)⟩
theorem lw_p2 : lw_okq (⟨"NurseryRow", "allCells", "()I"⟩, 10) := ⟨⟨by decide +kernel, by decide +kernel⟩, List.mem_of_getElem? (i := 22) (by decide +kernel), List.mem_of_getElem? (i := 177) (by decide +kernel), List.mem_of_getElem? (i := 178) (by decide +kernel)⟩
theorem lw_p3 : lw_okq (⟨"NurseryRow", "growCells", "()V"⟩, 10) := ⟨⟨by decide +kernel, by decide +kernel⟩, List.mem_of_getElem? (i := 22) (by decide +kernel), List.mem_of_getElem? (i := 181) (by decide +kernel), List.mem_of_getElem? (i := 182) (by decide +kernel)⟩
theorem lw_p4 : lw_okq (⟨"NurseryRow", "fieldCell", "(II)I"⟩, 10) := ⟨⟨by decide +kernel, by decide +kernel⟩, List.mem_of_getElem? (i := 22) (by decide +kernel), List.mem_of_getElem? (i := 472) (by decide +kernel), List.mem_of_getElem? (i := 473) (by decide +kernel)⟩
theorem lw_p5 : lw_okq (⟨"NurseryRow", "isObject", "(I)Z"⟩, 10) := ⟨⟨by decide +kernel, by decide +kernel⟩, List.mem_of_getElem? (i := 22) (by decide +kernel), List.mem_of_getElem? (i := 476) (by decide +kernel), List.mem_of_getElem? (i := 477) (by decide +kernel)⟩
theorem lw_p6 : lw_okq (⟨"NurseryRow", "partOf", "(I)I"⟩, 10) := ⟨⟨by decide +kernel, by decide +kernel⟩, List.mem_of_getElem? (i := 22) (by decide +kernel), List.mem_of_getElem? (i := 480) (by decide +kernel), List.mem_of_getElem? (i := 481) (by decide +kernel)⟩
theorem lw_p7 : lw_okq (⟨"NurseryRow", "sizeAt", "(I)I"⟩, 10) := ⟨⟨by decide +kernel, by decide +kernel⟩, List.mem_of_getElem? (i := 22) (by decide +kernel), List.mem_of_getElem? (i := 488) (by decide +kernel), List.mem_of_getElem? (i := 489) (by decide +kernel)⟩
theorem lw_p8 : lw_okq (⟨"NurseryRow", "isNothingOrObject", "(I)Z"⟩, 10) := ⟨⟨by decide +kernel, by decide +kernel⟩, List.mem_of_getElem? (i := 22) (by decide +kernel), List.mem_of_getElem? (i := 492) (by decide +kernel), List.mem_of_getElem? (i := 493) (by decide +kernel)⟩
theorem lw_p9 : lw_okq (⟨"NurseryRow", "exchange", "(II)I"⟩, 10) := ⟨⟨by decide +kernel, by decide +kernel⟩, List.mem_of_getElem? (i := 22) (by decide +kernel), List.mem_of_getElem? (i := 512) (by decide +kernel), List.mem_of_getElem? (i := 513) (by decide +kernel)⟩
theorem lw_p10 : lw_okq (⟨"NurseryRow", "wordCell", "(II)I"⟩, 10) := ⟨⟨by decide +kernel, by decide +kernel⟩, List.mem_of_getElem? (i := 22) (by decide +kernel), List.mem_of_getElem? (i := 530) (by decide +kernel), List.mem_of_getElem? (i := 531) (by decide +kernel)⟩
theorem lw_p11 : lw_okq (⟨"NurseryRow", "followRoots", "()V"⟩, 10) := ⟨⟨by decide +kernel, by decide +kernel⟩, List.mem_of_getElem? (i := 22) (by decide +kernel), List.mem_of_getElem? (i := 585) (by decide +kernel), List.mem_of_getElem? (i := 586) (by decide +kernel)⟩
theorem lw_p12 : lw_okq (⟨"NurseryRow", "follow", "(I)I"⟩, 10) := ⟨⟨by decide +kernel, by decide +kernel⟩, List.mem_of_getElem? (i := 22) (by decide +kernel), List.mem_of_getElem? (i := 589) (by decide +kernel), List.mem_of_getElem? (i := 590) (by decide +kernel)⟩
theorem lw_p13 : lw_okq (⟨"NurseryRow", "isYoung", "(I)Z"⟩, 10) := ⟨⟨by decide +kernel, by decide +kernel⟩, List.mem_of_getElem? (i := 22) (by decide +kernel), List.mem_of_getElem? (i := 593) (by decide +kernel), List.mem_of_getElem? (i := 594) (by decide +kernel)⟩
theorem lw_p14 : lw_okq (⟨"NurseryRow", "copyOf", "(I)I"⟩, 10) := ⟨⟨by decide +kernel, by decide +kernel⟩, List.mem_of_getElem? (i := 22) (by decide +kernel), List.mem_of_getElem? (i := 597) (by decide +kernel), List.mem_of_getElem? (i := 598) (by decide +kernel)⟩
theorem lw_p15 : lw_okq (⟨"NurseryRow", "noteCopy", "(I)V"⟩, 10) := ⟨⟨by decide +kernel, by decide +kernel⟩, List.mem_of_getElem? (i := 22) (by decide +kernel), List.mem_of_getElem? (i := 602) (by decide +kernel), List.mem_of_getElem? (i := 603) (by decide +kernel)⟩
def lw_privs_1 : List (MethodName × Nat) := [(⟨"NurseryRow", "layParts", "(III)V"⟩, 10), (⟨"java/lang/Throwable", "fillInStackTrace", "(I)Ljava/lang/Throwable;"⟩, 6), (⟨"NurseryRow", "allCells", "()I"⟩, 10), (⟨"NurseryRow", "growCells", "()V"⟩, 10), (⟨"NurseryRow", "fieldCell", "(II)I"⟩, 10), (⟨"NurseryRow", "isObject", "(I)Z"⟩, 10), (⟨"NurseryRow", "partOf", "(I)I"⟩, 10), (⟨"NurseryRow", "sizeAt", "(I)I"⟩, 10), (⟨"NurseryRow", "isNothingOrObject", "(I)Z"⟩, 10), (⟨"NurseryRow", "exchange", "(II)I"⟩, 10), (⟨"NurseryRow", "wordCell", "(II)I"⟩, 10), (⟨"NurseryRow", "followRoots", "()V"⟩, 10), (⟨"NurseryRow", "follow", "(I)I"⟩, 10), (⟨"NurseryRow", "isYoung", "(I)Z"⟩, 10), (⟨"NurseryRow", "copyOf", "(I)I"⟩, 10), (⟨"NurseryRow", "noteCopy", "(I)V"⟩, 10)]
theorem lw_r1 : ∀ q ∈ lw_privs_1, lw_okq q := List.forall_mem_cons.mpr ⟨lw_p0, List.forall_mem_cons.mpr ⟨lw_p1, List.forall_mem_cons.mpr ⟨lw_p2, List.forall_mem_cons.mpr ⟨lw_p3, List.forall_mem_cons.mpr ⟨lw_p4, List.forall_mem_cons.mpr ⟨lw_p5, List.forall_mem_cons.mpr ⟨lw_p6, List.forall_mem_cons.mpr ⟨lw_p7, List.forall_mem_cons.mpr ⟨lw_p8, List.forall_mem_cons.mpr ⟨lw_p9, List.forall_mem_cons.mpr ⟨lw_p10, List.forall_mem_cons.mpr ⟨lw_p11, List.forall_mem_cons.mpr ⟨lw_p12, List.forall_mem_cons.mpr ⟨lw_p13, List.forall_mem_cons.mpr ⟨lw_p14, List.forall_mem_cons.mpr ⟨lw_p15, fun _ h => absurd h List.not_mem_nil⟩⟩⟩⟩⟩⟩⟩⟩⟩⟩⟩⟩⟩⟩⟩⟩
theorem lw_p16 : lw_okq (⟨"NurseryRow", "followOld", "(I)V"⟩, 10) := ⟨⟨by decide +kernel, by decide +kernel⟩, List.mem_of_getElem? (i := 22) (by decide +kernel), List.mem_of_getElem? (i := 606) (by decide +kernel), List.mem_of_getElem? (i := 607) (by decide +kernel)⟩
theorem lw_p17 : lw_okq (⟨"NurseryRow", "followFields", "(I)V"⟩, 10) := ⟨⟨by decide +kernel, by decide +kernel⟩, List.mem_of_getElem? (i := 22) (by decide +kernel), List.mem_of_getElem? (i := 610) (by decide +kernel), List.mem_of_getElem? (i := 611) (by decide +kernel)⟩
theorem lw_p18 : lw_okq (⟨"NurseryRow", "followCopies", "()V"⟩, 10) := ⟨⟨by decide +kernel, by decide +kernel⟩, List.mem_of_getElem? (i := 22) (by decide +kernel), List.mem_of_getElem? (i := 614) (by decide +kernel), List.mem_of_getElem? (i := 615) (by decide +kernel)⟩
theorem lw_p19 : lw_okq (⟨"NurseryRow", "firstFrom", "(I)I"⟩, 10) := ⟨⟨by decide +kernel, by decide +kernel⟩, List.mem_of_getElem? (i := 22) (by decide +kernel), List.mem_of_getElem? (i := 634) (by decide +kernel), List.mem_of_getElem? (i := 635) (by decide +kernel)⟩
theorem lw_p20 : lw_okq (⟨"NurseryRowModel", "lay", "(III)V"⟩, 25) := ⟨⟨by decide +kernel, by decide +kernel⟩, List.mem_of_getElem? (i := 646) (by decide +kernel), List.mem_of_getElem? (i := 652) (by decide +kernel), List.mem_of_getElem? (i := 653) (by decide +kernel)⟩
theorem lw_p21 : lw_okq (⟨"NurseryRowModel", "goes", "(ZZ)Z"⟩, 25) := ⟨⟨by decide +kernel, by decide +kernel⟩, List.mem_of_getElem? (i := 646) (by decide +kernel), List.mem_of_getElem? (i := 741) (by decide +kernel), List.mem_of_getElem? (i := 742) (by decide +kernel)⟩
theorem lw_p22 : lw_okq (⟨"NurseryRowModel", "freeNumber", "()I"⟩, 25) := ⟨⟨by decide +kernel, by decide +kernel⟩, List.mem_of_getElem? (i := 646) (by decide +kernel), List.mem_of_getElem? (i := 753) (by decide +kernel), List.mem_of_getElem? (i := 754) (by decide +kernel)⟩
theorem lw_p23 : lw_okq (⟨"NurseryRowModel", "field", "(II)I"⟩, 25) := ⟨⟨by decide +kernel, by decide +kernel⟩, List.mem_of_getElem? (i := 646) (by decide +kernel), List.mem_of_getElem? (i := 761) (by decide +kernel), List.mem_of_getElem? (i := 762) (by decide +kernel)⟩
theorem lw_p24 : lw_okq (⟨"NurseryRowModel", "object", "(I)I"⟩, 25) := ⟨⟨by decide +kernel, by decide +kernel⟩, List.mem_of_getElem? (i := 646) (by decide +kernel), List.mem_of_getElem? (i := 765) (by decide +kernel), List.mem_of_getElem? (i := 766) (by decide +kernel)⟩
theorem lw_p25 : lw_okq (⟨"NurseryRowModel", "told", "(I)I"⟩, 25) := ⟨⟨by decide +kernel, by decide +kernel⟩, List.mem_of_getElem? (i := 646) (by decide +kernel), List.mem_of_getElem? (i := 769) (by decide +kernel), List.mem_of_getElem? (i := 770) (by decide +kernel)⟩
theorem lw_p26 : lw_okq (⟨"NurseryRowModel", "place", "(II)I"⟩, 25) := ⟨⟨by decide +kernel, by decide +kernel⟩, List.mem_of_getElem? (i := 646) (by decide +kernel), List.mem_of_getElem? (i := 781) (by decide +kernel), List.mem_of_getElem? (i := 782) (by decide +kernel)⟩
theorem lw_p27 : lw_okq (⟨"NurseryRowModel", "find", "(I)V"⟩, 25) := ⟨⟨by decide +kernel, by decide +kernel⟩, List.mem_of_getElem? (i := 646) (by decide +kernel), List.mem_of_getElem? (i := 801) (by decide +kernel), List.mem_of_getElem? (i := 802) (by decide +kernel)⟩
theorem lw_p28 : lw_okq (⟨"NurseryRowModel", "size", "(I)I"⟩, 25) := ⟨⟨by decide +kernel, by decide +kernel⟩, List.mem_of_getElem? (i := 646) (by decide +kernel), List.mem_of_getElem? (i := 805) (by decide +kernel), List.mem_of_getElem? (i := 806) (by decide +kernel)⟩
theorem lw_p29 : lw_okq (⟨"NurseryRowModel", "findFields", "(I)V"⟩, 25) := ⟨⟨by decide +kernel, by decide +kernel⟩, List.mem_of_getElem? (i := 646) (by decide +kernel), List.mem_of_getElem? (i := 809) (by decide +kernel), List.mem_of_getElem? (i := 810) (by decide +kernel)⟩
theorem lw_p30 : lw_okq (⟨"NurseryRowModel", "tidy", "()V"⟩, 25) := ⟨⟨by decide +kernel, by decide +kernel⟩, List.mem_of_getElem? (i := 646) (by decide +kernel), List.mem_of_getElem? (i := 813) (by decide +kernel), List.mem_of_getElem? (i := 814) (by decide +kernel)⟩
theorem lw_p31 : lw_okq (⟨"NurseryRowModel", "many", "(I)I"⟩, 25) := ⟨⟨by decide +kernel, by decide +kernel⟩, List.mem_of_getElem? (i := 646) (by decide +kernel), List.mem_of_getElem? (i := 829) (by decide +kernel), List.mem_of_getElem? (i := 830) (by decide +kernel)⟩
def lw_privs_2 : List (MethodName × Nat) := [(⟨"NurseryRow", "followOld", "(I)V"⟩, 10), (⟨"NurseryRow", "followFields", "(I)V"⟩, 10), (⟨"NurseryRow", "followCopies", "()V"⟩, 10), (⟨"NurseryRow", "firstFrom", "(I)I"⟩, 10), (⟨"NurseryRowModel", "lay", "(III)V"⟩, 25), (⟨"NurseryRowModel", "goes", "(ZZ)Z"⟩, 25), (⟨"NurseryRowModel", "freeNumber", "()I"⟩, 25), (⟨"NurseryRowModel", "field", "(II)I"⟩, 25), (⟨"NurseryRowModel", "object", "(I)I"⟩, 25), (⟨"NurseryRowModel", "told", "(I)I"⟩, 25), (⟨"NurseryRowModel", "place", "(II)I"⟩, 25), (⟨"NurseryRowModel", "find", "(I)V"⟩, 25), (⟨"NurseryRowModel", "size", "(I)I"⟩, 25), (⟨"NurseryRowModel", "findFields", "(I)V"⟩, 25), (⟨"NurseryRowModel", "tidy", "()V"⟩, 25), (⟨"NurseryRowModel", "many", "(I)I"⟩, 25)]
theorem lw_r2 : ∀ q ∈ lw_privs_2, lw_okq q := List.forall_mem_cons.mpr ⟨lw_p16, List.forall_mem_cons.mpr ⟨lw_p17, List.forall_mem_cons.mpr ⟨lw_p18, List.forall_mem_cons.mpr ⟨lw_p19, List.forall_mem_cons.mpr ⟨lw_p20, List.forall_mem_cons.mpr ⟨lw_p21, List.forall_mem_cons.mpr ⟨lw_p22, List.forall_mem_cons.mpr ⟨lw_p23, List.forall_mem_cons.mpr ⟨lw_p24, List.forall_mem_cons.mpr ⟨lw_p25, List.forall_mem_cons.mpr ⟨lw_p26, List.forall_mem_cons.mpr ⟨lw_p27, List.forall_mem_cons.mpr ⟨lw_p28, List.forall_mem_cons.mpr ⟨lw_p29, List.forall_mem_cons.mpr ⟨lw_p30, List.forall_mem_cons.mpr ⟨lw_p31, fun _ h => absurd h List.not_mem_nil⟩⟩⟩⟩⟩⟩⟩⟩⟩⟩⟩⟩⟩⟩⟩⟩
def lw_privs : List (MethodName × Nat) := lw_privs_1 ++ (lw_privs_2)
def lw_tbl : List Cond := k2_sels lw_privs ++ tables_1
theorem lw_privs_ok : ∀ q ∈ lw_privs, lw_okq q := by
  show ∀ q ∈ lw_privs_1 ++ (lw_privs_2), lw_okq q
  exact List.forall_mem_append.mpr ⟨lw_r1, lw_r2⟩
end
section
/-! ===== BEGIN words of one list among another's, by their places ===== -/
theorem goodIn_r {big : List Cond} (ws : List Cond) (ps : List Nat) (hp : ws = ps.filterMap (fun i => big[i]?)) (h : ws.all goodWord = true) : GoodIn big ws := by
  intro w hw
  have h1 := List.all_eq_true.mp h w hw
  rw [hp] at hw
  obtain ⟨i, -, hi⟩ := List.mem_filterMap.mp hw
  have hm : w ∈ big := by first | exact List.mem_of_getElem? hi | exact List.getElem?_mem hi
  exact ⟨hm, good_of_word h1⟩
theorem goodIn_app {big a b : List Cond} (ha : GoodIn big a) (hb : GoodIn big b) : GoodIn big (a ++ b) := fun w h => (List.mem_append.mp h).elim (ha w) (hb w)
theorem goodIn_ca {big a b : List Cond} {c : Cond} (ha : GoodIn big (c :: a)) (hb : GoodIn big b) : GoodIn big (c :: (a ++ b)) := fun w h => (List.mem_cons.mp h).elim (fun e => ha w (List.mem_cons.mpr (Or.inl e))) (fun h => (List.mem_append.mp h).elim (fun h => ha w (List.mem_cons.mpr (Or.inr h))) (hb w))
theorem goodIn_sub {big ws : List Cond} (hm : ∀ w ∈ ws, w ∈ big) (h : ws.all goodWord = true) : GoodIn big ws := fun w hw => ⟨hm w hw, good_of_word (List.all_eq_true.mp h w hw)⟩
/-! ===== END ===== -/

/-! ===== BEGIN exceptions that leave a method, and their catching by the caller (launches without stack traces) ===== -/
section VXA
/-! The laws vx_back, vx_callV, vx_callS, vx_callSW, vx_throw0, vx_throwS follow proofs of the library, with one case more: JvmDerived/Free/Laws.lean (Back.of_free), Shelf42/LK1.lean (callV, callS), Shelf/KitTraced.lean (throwNew0V, throwNewS). -/
/-- where a method has thrown q: the class by its name, the cell, what was written, the world -/
def vx_T (XC : String → State → State → Prop) (st : State) (q : Addr) (t : State) (mc ms : Nat) (free : Addr → Prop) : Prop :=
  ∃ (E : String) (ce : Cell) (L : List Loc), XC E st t ∧ t.heap[q]? = some ce ∧ ce.vm = .none ∧ st.vm.findClass E = some ce.cls ∧ st.WarmedH t.vm ∧ st.sameButNew ({ t with vm := st.vm } : State) L mc ms ∧ ∀ z ∈ L, free z.base
def vx_Q (Qc : Array Value → State → Outcome → State → Prop) (XC : String → State → State → Prop) (mc ms : Nat) (free : Addr → Prop) : Array Value → State → Outcome → State → Prop := fun a st o t =>
  (Qc a st o t ∧ ∃ L, FrameEnd st o t L mc ms ∧ ∀ q ∈ L, free q.base) ∨ ∃ q, o = .threw q ∧ vx_T XC st q t mc ms free
/-- a callee that returns or throws -/
def vx_Met (l : Launch) (y : MethodName) (ws : List Cond) (rm : Room) (Pc : Array Value → State → Prop) (Qc : Array Value → State → Outcome → State → Prop) (XC : String → State → State → Prop) (mc ms : Nat) (free : Addr → Prop) : Prop :=
  MetFree l y (headSpec ws rm) Pc (fun _ _ _ _ _ => True) (vx_Q Qc XC mc ms free)
def vx_Post (XC : String → State → State → Prop) (mc ms : Nat) (free : Addr → Prop) : Pt → Array Value → Addr → Pt → Prop := fun A a q B =>
  ∃ (g : JFrame) (mk : MethodId) (t : State) (L : List Loc) (E : String) (ce : Cell), B.U.heap = t.heap ∧ B.U.vm = t.vm ∧ XC E (A.U.calling g mk a) t ∧ t.heap[q]? = some ce ∧ ce.vm = .none ∧ A.U.vm.findClass E = some ce.cls ∧ B.locs = A.locs ++ L ∧ (∀ z ∈ L, free z.base) ∧ B.cells = A.cells + mc ∧ B.slots = A.slots + ms
def vx_Back (l : Launch) (R : Room) (p : Program) (e : Env) (below : List Frame) (s : State) (sargs : Array Value) (y : MethodName) (len W9 : Nat)
    (Pre : Pt → Array Value → Prop) (Post : Pt → Array Value → Option Value → Pt → Prop) (PostX : Pt → Array Value → Addr → Pt → Prop) : Prop :=
  ∀ (m : MethodId) (meth : Method) (c : Code) (A : Pt) (g : JFrame) (ig : Instr) (mk : MethodId) (a : Array Value),
    Stand p l e R s m sargs below meth c A.U A.locs A.cells A.slots → g.method = m → g.locals.size = c.maxLocals → decode c.code g.pc = .ok (ig, len) →
    2 * g.monitorRoom + (g.stack.map fun v => v.category).sum ≤ W9 → A.U.methodNamed? y = some mk → Pre A a →
    (∃ (v : Option Value) (B : Pt), Stand p l e R s m sargs below meth c B.U B.locs B.cells B.slots ∧ Post A a v B ∧
      Steps p.tables e below (doInvoke e (A.U.setTop g) [] mk a).1 (B.U.setTop { g with pc := g.pc + len, stack := v.toList ++ g.stack })) ∨
    (∃ (q : Addr) (B : Pt), Stand p l e R s m sargs below meth c B.U B.locs B.cells B.slots ∧ PostX A a q B ∧
      Steps p.tables e below (doInvoke e (A.U.setTop g) [] mk a).1 ((B.U.setTop g).pushFrame (.throwing q)))
section Payer
variable {l : Launch} {R : Room} {p : Program} {e : Env} {below : List Frame} {s : State} {sargs : Array Value} {y : MethodName} {len W9 : Nat}
theorem vx_back {ws : List Cond} {rm : Room} {Pc : Array Value → State → Prop} {Qc : Array Value → State → Outcome → State → Prop} {XC : String → State → State → Prop} {mc ms : Nat} {free : Addr → Prop} {bytes : ByteArray} {maxL : Nat} {ret : Option FieldType}
    (hM : vx_Met l y ws rm Pc Qc XC mc ms free) (hblind : FrameBlind Pc) (hrc : rm.cells = mc) (hrs : rm.slots = ms)
    (hframes : rm.frames + 1 ≤ R.frames) (hlocals : W9 + (maxL + 11) + rm.locals ≤ R.locals)
    (hws : ∀ w ∈ ws, ∀ a' U, s.WarmedH U.vm → w.before a' U = true) (hcode : Cond.code y bytes maxL ret ∈ ws) (hinit : ∀ a' U, s.WarmedH U.vm → (Cond.initialized y.cls).before a' U = true) :
    vx_Back l R p e below s sargs y len W9 (PreOf R mc ms Pc) (PostOf Qc mc ms free) (vx_Post XC mc ms free) := by
  intro m meth c A g ig mk a X hg hsize hdg hW hn hp
  have h1 : (headSpec ws rm).pre.before a A.U = true := atoms_intro fun w hw => hws w hw _ _ X.warmed
  have h2 : (Cond.code y bytes maxL ret).before a A.U = true := hws _ hcode _ _ X.warmed
  have h3 : (Cond.initialized y.cls).before a A.U = true := hinit _ _ X.warmed
  have h4 : A.cells + (headSpec ws rm).room.cells ≤ R.cells := by rw [show (headSpec ws rm).room.cells = mc from hrc]; exact hp.1
  have h5 : A.slots + (headSpec ws rm).room.slots ≤ R.slots := by rw [show (headSpec ws rm).room.slots = ms from hrs]; exact hp.2.1
  have hPc : Pc a (A.U.calling g mk a) := hblind _ _ _ _ hp.2.2
  obtain ⟨U, Ls, c0, s0⟩ := A
  dsimp only [Pt.U, Pt.locs, Pt.cells, Pt.slots] at h1 h2 h3 h4 h5 X hn hPc ⊢
  obtain ⟨methY, cY, hmY, hcY, -, hlY, -, -, -, -⟩ := Cond.code_spec hn h2
  obtain ⟨kY, hkY, -⟩ := className_of_methodNamed hn
  have hinitY : kY.init = .initialized := Cond.initialized_spec (findClass_of_methodNamed hn) hkY h3
  have h : At U g.method c below := by rw [hg]; exact X.here
  have hlocals9 : W9 + (maxL + 11) + (headSpec ws rm).room.locals ≤ R.locals := hlocals
  have happ : (headSpec ws rm).appliesLoose y e.platform (U.calling g mk a) = true :=
    Spec.appliesLoose_calling (g := g) h hdg hn hkY hinitY
      (X.room_calling (g := g) (R' := (headSpec ws rm).room) hsize hmY hcY hframes (by rw [hlY]; omega) h4 h5) h1
  obtain ⟨mid, hmid⟩ := h.above
  have hfr : (U.setTop g).frames = (.java g :: mid) ++ below := by rw [State.frames_setTop' g h.top, hmid]; rfl
  obtain ⟨o, s₂, hsteps, -, hend, hq⟩ := Steps.callFree hM p X.admits X.cas X.clock (acts := []) hfr happ hPc trivial
  have hq' : vx_Q Qc XC mc ms free a (U.calling g mk a) o s₂ := hq
  rw [State.frames_setTop' g h.top] at hend
  obtain ⟨g₀, hg0⟩ := Option.isSome_iff_exists.mp h.top
  obtain ⟨r, hr⟩ := State.topJava?_eq_some.mp hg0
  have hr' : (({ U with heap := s₂.heap, slotsUsed := s₂.slotsUsed } : State).setVm s₂.vm).frames = .java g₀ :: r := hr
  rcases hq' with ⟨hqc, L, hfe, hL⟩ | ⟨q, rfl, E, ce, L, hx, hce, hcv, hcl, hW₂, hsm, hL⟩
  · obtain ⟨⟨v, rfl⟩, hW₂, e2, q2, q3, q4, q5, q6⟩ := id hfe
    have e3 : s₂ = ({ (U.calling g mk a).setFrames s₂.frames with heap := s₂.heap, slotsUsed := s₂.slotsUsed } : State).setVm s₂.vm := by
      have : s₂ = ({ s₂ with vm := (U.calling g mk a).vm } : State).setVm s₂.vm := rfl
      rw [e2] at this
      exact this
    obtain ⟨c₂, i₂, len₂, hc₂, hd₂, hf₂⟩ := hend
    have hW' : U.WarmedH s₂.vm := hW₂
    have hcc : c₂ = c := by
      have h1 : s₂.code? g.method = U.code? g.method := by
        rw [State.code?_eq, State.code?_eq, hW'.alike.method?]
      exact Option.some.inj (hc₂.symm.trans (h1.trans h.code))
    subst hcc
    have hlen : len₂ = len := by rw [hdg] at hd₂; cases hd₂; rfl
    subst hlen
    have hs₂ : s₂ = (({ U with heap := s₂.heap, slotsUsed := s₂.slotsUsed } : State).setVm s₂.vm).setTop { g with pc := g.pc + len₂, stack := v.toList ++ g.stack } := by
      refine e3.trans ?_
      rw [hf₂, State.calling_eq h.top, State.setFrames_setFrames, State.setTop_of_frames _ hr', hr]
      rfl
    have hsame : U.sameButNew ({ U with heap := s₂.heap, slotsUsed := s₂.slotsUsed } : State) L mc ms := by
      refine ⟨?_, q2, q3, q4, q5, q6⟩
      obtain ⟨t, ht, -⟩ := State.frames_cons hr
      show ({ U with heap := s₂.heap, slotsUsed := s₂.slotsUsed } : State) = { U.setFrames U.frames with heap := s₂.heap, slotsUsed := s₂.slotsUsed }
      rw [State.setFrames_self ht]
    subst hg
    refine Or.inl ⟨v, ⟨(({ U with heap := s₂.heap, slotsUsed := s₂.slotsUsed } : State).setVm s₂.vm), Ls ++ L, c0 + mc, s0 + ms⟩,
      ⟨X.admits, X.cas, X.clock, X.frames, X.room, X.hears, X.method, X.code, (X.here.setHeapUsed s₂.heap s₂.slotsUsed).setVm hW'.alike, X.tail, State.WarmedH.trans X.warmed hW', X.limits, X.bytes, X.same.trans (hsame.setVm s.vm)⟩,
      ⟨g, mk, s₂, L, rfl, rfl, hqc, rfl, hL, rfl, rfl⟩, ?_⟩
    show Steps p.tables e below _ ((({ U with heap := s₂.heap, slotsUsed := s₂.slotsUsed } : State).setVm s₂.vm).setTop { g with pc := g.pc + len₂, stack := v.toList ++ g.stack })
    rw [← hs₂]
    exact hsteps
  · obtain ⟨e2, q2, q3, q4, q5, q6⟩ := id hsm
    have e3 : s₂ = ({ (U.calling g mk a).setFrames s₂.frames with heap := s₂.heap, slotsUsed := s₂.slotsUsed } : State).setVm s₂.vm := by
      have : s₂ = ({ s₂ with vm := (U.calling g mk a).vm } : State).setVm s₂.vm := rfl
      rw [e2] at this
      exact this
    have hf₂ : s₂.frames = .throwing q :: .java g :: U.frames.tail := hend
    have hW' : U.WarmedH s₂.vm := hW₂
    have hs₂ : s₂ = ((({ U with heap := s₂.heap, slotsUsed := s₂.slotsUsed } : State).setVm s₂.vm).setTop g).pushFrame (.throwing q) := by
      refine e3.trans ?_
      rw [hf₂, State.calling_eq h.top, State.setFrames_setFrames, State.pushFrame, State.frames_setTop _ hr', State.setTop_of_frames _ hr', State.setFrames_setFrames, hr]
      rfl
    have hsame : U.sameButNew ({ U with heap := s₂.heap, slotsUsed := s₂.slotsUsed } : State) L mc ms := by
      refine ⟨?_, q2, q3, q4, q5, q6⟩
      obtain ⟨t, ht, -⟩ := State.frames_cons hr
      show ({ U with heap := s₂.heap, slotsUsed := s₂.slotsUsed } : State) = { U.setFrames U.frames with heap := s₂.heap, slotsUsed := s₂.slotsUsed }
      rw [State.setFrames_self ht]
    subst hg
    refine Or.inr ⟨q, ⟨(({ U with heap := s₂.heap, slotsUsed := s₂.slotsUsed } : State).setVm s₂.vm), Ls ++ L, c0 + mc, s0 + ms⟩,
      ⟨X.admits, X.cas, X.clock, X.frames, X.room, X.hears, X.method, X.code, (X.here.setHeapUsed s₂.heap s₂.slotsUsed).setVm hW'.alike, X.tail, State.WarmedH.trans X.warmed hW', X.limits, X.bytes, X.same.trans (hsame.setVm s.vm)⟩,
      ⟨g, mk, s₂, L, E, ce, rfl, rfl, hx, hce, hcv, hcl, rfl, hL, rfl, rfl⟩, ?_⟩
    show Steps p.tables e below _ (((({ U with heap := s₂.heap, slotsUsed := s₂.slotsUsed } : State).setVm s₂.vm).setTop g).pushFrame (.throwing q))
    rw [← hs₂]
    exact hsteps
end Payer
section Calls
variable {p : Program} {l : Launch} {e : Env} {R : Room} {s : State} {m : MethodId} {args : Array Value} {below : List Frame} {meth : Method} {c : Code} {T : State} {locs : List Loc} {cells slots : Nat}
theorem vx_callV (X : Stand p l e R s m args below meth c T locs cells slots) (hexec : p.tables.exec = Jvm.exec) {own C : String} {index : Nat} {y : MethodName} {bytes : ByteArray} {maxL : Nat} {ret : Option FieldType}
    (hown : s.vm.findClass own = some m.cls) (hlink : (Cond.methodLink own index y).before args s = true) (hinst : (Cond.instanceMethod y).before args s = true) (hsel : (Cond.selects C y y).before args s = true)
    (hcode : (Cond.code y bytes maxL ret).before args s = true) (hy : y.cls ≠ "java/lang/invoke/MethodHandle" ∧ y.cls ≠ "java/lang/invoke/VarHandle")
    {W9 : Nat} {Pre : Pt → Array Value → Prop} {Post : Pt → Array Value → Option Value → Pt → Prop} {PostX : Pt → Array Value → Addr → Pt → Prop} (hK : vx_Back l R p e below s args y 3 W9 Pre Post PostX)
    {b : Addr} {cellB : Cell} (hcell : T.heap[b]? = some cellB) (hobj : cellB.vm.isStatics = false) (hcls : s.vm.findClass C = some cellB.cls)
    {g : JFrame} (hg : g.method = m) (hsize : g.locals.size = c.maxLocals) {argsL rest : List Value} (hlen : ∀ sig, parseMethodDescriptor y.desc = some sig → argsL.length = sig.parameters.length)
    (hstack : g.stack = argsL.reverse ++ .ref b :: rest) (hW : 2 * g.monitorRoom + (rest.map fun v => v.category).sum ≤ W9) (hdg : decode c.code g.pc = .ok (.invokevirtual index, 3))
    (hpre : ∀ vm₁, s.WarmedH vm₁ → Pre ⟨T.setVm vm₁, locs, cells, slots⟩ (Value.ref b :: argsL).toArray) :
    (∃ (v : Option Value) (vm₁ : Vm) (B : Pt), s.WarmedH vm₁ ∧ Stand p l e R s m args below meth c B.U B.locs B.cells B.slots ∧ Post ⟨T.setVm vm₁, locs, cells, slots⟩ (Value.ref b :: argsL).toArray v B ∧
      ∀ target, Steps p.tables e below (B.U.setTop { g with pc := g.pc + 3, stack := v.toList ++ rest }) target → Steps p.tables e below (T.setTop g) target) ∨
    (∃ (q : Addr) (vm₁ : Vm) (B : Pt), s.WarmedH vm₁ ∧ Stand p l e R s m args below meth c B.U B.locs B.cells B.slots ∧ PostX ⟨T.setVm vm₁, locs, cells, slots⟩ (Value.ref b :: argsL).toArray q B ∧
      Steps p.tables e below (T.setTop g) ((B.U.setTop { g with stack := rest }).pushFrame (.throwing q))) := by
  obtain ⟨mk, methM, hnamed, hmethM, hstM, habM⟩ := Cond.instanceMethod_spec hinst
  obtain ⟨methM', cM, hmethM', -, -, -, -, -, -, hsigM⟩ := Cond.code_spec hnamed hcode
  cases hmethM.symm.trans hmethM'
  obtain ⟨c2, r2, m2, q1, q2, q3, q4, kP, hkP, hkPi⟩ := Cond.selects_spec hsel
  cases hcls.symm.trans q1
  cases (State.methodFound?_of_named hnamed hy).symm.trans q2
  cases hnamed.symm.trans q3
  have hselP : selectMethod e.platform s.vm cellB.cls mk = .method mk := by rw [Launch.admits_selectMethod X.admits]; exact q4
  obtain ⟨vm₁, X₁, hstep₁⟩ := X.invokevirtual hexec hown hlink hnamed hmethM hstM hkP hkPi hy (a := b) (cell := cellB) hcell
    (fun z h => by rw [h] at hobj; cases hobj) hselP hmethM habM hkP hkPi (g := g) hg (argsL := argsL) (rest := rest) (hlen _ hsigM) hstack hdg
  rcases hK m meth c ⟨T.setVm vm₁, locs, cells, slots⟩ { g with stack := rest } (.invokevirtual index) mk (Value.ref b :: argsL).toArray X₁ hg hsize hdg hW (X₁.named hnamed) (hpre vm₁ X₁.warmed) with ⟨v, B, X', hpost, hsteps⟩ | ⟨q, B, X', hpost, hsteps⟩
  · exact Or.inl ⟨v, vm₁, B, X₁.warmed, X', hpost, fun target h => hstep₁ _ fun acts => by rw [doInvoke_state]; exact hsteps.trans h⟩
  · exact Or.inr ⟨q, vm₁, B, X₁.warmed, X', hpost, hstep₁ _ fun acts => by rw [doInvoke_state]; exact hsteps⟩
theorem vx_callS (X : Stand p l e R s m args below meth c T locs cells slots) (hexec : p.tables.exec = Jvm.exec) {own : String} {index : Nat} {y : MethodName} {bytes : ByteArray} {maxL : Nat} {ret : Option FieldType}
    (hown : s.vm.findClass own = some m.cls) (hlink : (Cond.methodLink own index y).before args s = true) (hstat : (Cond.static y).before args s = true) (hinit : (Cond.initialized y.cls).before args s = true)
    (hcode : (Cond.code y bytes maxL ret).before args s = true) (hy : y.cls ≠ "java/lang/invoke/MethodHandle" ∧ y.cls ≠ "java/lang/invoke/VarHandle")
    {W9 : Nat} {Pre : Pt → Array Value → Prop} {Post : Pt → Array Value → Option Value → Pt → Prop} {PostX : Pt → Array Value → Addr → Pt → Prop} (hK : vx_Back l R p e below s args y 3 W9 Pre Post PostX)
    {g : JFrame} (hg : g.method = m) (hsize : g.locals.size = c.maxLocals) {argsL rest : List Value} (hlen : ∀ sig, parseMethodDescriptor y.desc = some sig → argsL.length = sig.parameters.length)
    (hstack : g.stack = argsL.reverse ++ rest) (hW : 2 * g.monitorRoom + (rest.map fun v => v.category).sum ≤ W9) (hdg : decode c.code g.pc = .ok (.invokestatic index, 3))
    (hpre : ∀ vm₁, s.WarmedH vm₁ → Pre ⟨T.setVm vm₁, locs, cells, slots⟩ argsL.toArray) :
    (∃ (v : Option Value) (vm₁ : Vm) (B : Pt), s.WarmedH vm₁ ∧ Stand p l e R s m args below meth c B.U B.locs B.cells B.slots ∧ Post ⟨T.setVm vm₁, locs, cells, slots⟩ argsL.toArray v B ∧
      ∀ target, Steps p.tables e below (B.U.setTop { g with pc := g.pc + 3, stack := v.toList ++ rest }) target → Steps p.tables e below (T.setTop g) target) ∨
    (∃ (q : Addr) (vm₁ : Vm) (B : Pt), s.WarmedH vm₁ ∧ Stand p l e R s m args below meth c B.U B.locs B.cells B.slots ∧ PostX ⟨T.setVm vm₁, locs, cells, slots⟩ argsL.toArray q B ∧
      Steps p.tables e below (T.setTop g) ((B.U.setTop { g with stack := rest }).pushFrame (.throwing q))) := by
  obtain ⟨mk, hnamed⟩ := Cond.code_named hcode
  obtain ⟨methM, cM, hmethM, -, -, -, -, -, -, hsigM⟩ := Cond.code_spec hnamed hcode
  have hstatic : methM.isStatic = true := Cond.static_spec hnamed hmethM hstat
  obtain ⟨kP, hkP, -⟩ := className_of_methodNamed hnamed
  have hinitP : kP.init = .initialized := Cond.initialized_spec (findClass_of_methodNamed hnamed) hkP hinit
  obtain ⟨vm₁, X₁, hstep₁⟩ := X.invokestatic hexec hown hlink hnamed hmethM hstatic hkP hinitP hy (g := g) hg (argsL := argsL) (rest := rest) (hlen _ hsigM) hstack hdg
  rcases hK m meth c ⟨T.setVm vm₁, locs, cells, slots⟩ { g with stack := rest } (.invokestatic index) mk argsL.toArray X₁ hg hsize hdg hW (X₁.named hnamed) (hpre vm₁ X₁.warmed) with ⟨v, B, X', hpost, hsteps⟩ | ⟨q, B, X', hpost, hsteps⟩
  · exact Or.inl ⟨v, vm₁, B, X₁.warmed, X', hpost, fun target h => hstep₁ _ fun acts => by rw [doInvoke_state]; exact hsteps.trans h⟩
  · exact Or.inr ⟨q, vm₁, B, X₁.warmed, X', hpost, hstep₁ _ fun acts => by rw [doInvoke_state]; exact hsteps⟩
end Calls
theorem vx_cls {s : State} {T : State} {vm₁ : Vm} {E : String} {k : ClassId} (hW : s.WarmedH vm₁) (h : (T.setVm vm₁).vm.findClass E = some k) : s.vm.findClass E = some k := by
  have h1 : vm₁.findClass E = some k := h
  rw [hW.alike.findClass] at h1
  exact h1
/-- the method's frame g, with q thrown over it -/
def vx_W (p : Program) (l : Launch) (e : Env) (R : Room) (s : State) (m : MethodId) (args : Array Value) (below : List Frame) (meth : Method) (c : Code) (H : Heap) (locs : List Loc) (cells slots : Nat) (Q : State → Prop) (g : JFrame) (q : Addr) : Prop :=
  ∀ T : State, T.heap = H → Stand p l e R s m args below meth c T locs cells slots → ∃ t, Steps p.tables e below ((T.setTop g).pushFrame (.throwing q)) t ∧ Q t
def vx_Run (p : Program) (l : Launch) (e : Env) (R : Room) (s : State) (m : MethodId) (args : Array Value) (below : List Frame) (meth : Method) (c : Code) (H : Heap) (locs : List Loc) (cells slots mc ms : Nat) (g : JFrame) (rest : List Value) (Qa : State → Outcome → State → Prop) (XC : String → State → State → Prop) (free : Addr → Prop) : Prop :=
  ∀ T : State, T.heap = H → Stand p l e R s m args below meth c T locs cells slots →
    (∃ (v : Option Value) (st₀ t T' : State) (L : List Loc), st₀.heap = H ∧ Stand p l e R s m args below meth c T' (locs ++ L) (cells + mc) (slots + ms) ∧ (∀ q ∈ L, free q.base) ∧ T'.heap = t.heap ∧ T'.vm = t.vm ∧ Qa st₀ (.returned v) t ∧
      Goes p e below T g T' { g with pc := g.pc + 3, stack := v.toList ++ rest }) ∨
    (∃ (q : Addr) (st₀ t T' : State) (L : List Loc) (E : String) (ce : Cell), st₀.heap = H ∧ Stand p l e R s m args below meth c T' (locs ++ L) (cells + mc) (slots + ms) ∧ (∀ z ∈ L, free z.base) ∧ T'.heap = t.heap ∧ T'.vm = t.vm ∧ XC E st₀ t ∧ t.heap[q]? = some ce ∧ ce.vm = .none ∧ s.vm.findClass E = some ce.cls ∧
      Steps p.tables e below (T.setTop g) ((T'.setTop { g with stack := rest }).pushFrame (.throwing q)))
def vx_X {S : Type} (px : S → Prop) (B : String → S → State → Prop) (A : Nat → Prop) : String → State → State → Prop := fun E st t => ∃ u : S, px u ∧ B E u t ∧ va_F A st t
section Runs
variable {p : Program} {l : Launch} {e : Env} {R : Room} {s : State} {m : MethodId} {args : Array Value} {below : List Frame} {meth : Method} {c : Code} {H : Heap} {locs : List Loc} {cells slots : Nat}
variable {y : MethodName} {bytes cc : ByteArray} {maxL nL mc ms n index : Nat} {ret : Option FieldType} {ws : List Cond} {rm : Room} {Pc : Array Value → State → Prop} {Qc : Array Value → State → Outcome → State → Prop} {XC : String → State → State → Prop} {free : Addr → Prop} {Ts : List Cond} {own C : String} {b : Addr} {As rest : List Value} {g : JFrame}
theorem vx_callBack (cb : CallB R s args own index y bytes maxL ret ws rm mc ms n) (hM : vx_Met l y ws rm Pc Qc XC mc ms free) (hbl : FrameBlind Pc) : vx_Back l R p e below s args y 3 8 (PreOf R mc ms Pc) (PostOf Qc mc ms free) (vx_Post XC mc ms free) := by
  obtain ⟨hrc, hrs, hfr, hlo, hws, hcw, -, hini, -⟩ := cb
  exact vx_back (bytes := bytes) (maxL := maxL) (ret := ret) hM hbl hrc hrs hfr hlo hws hcw (fun a' U hW => word_at hW (Or.inl (by first | rfl | simp [Cond.onTables, Cond.keeps, Cond.steady])) hini)
theorem vx_runV (S : CallFix p m c cc nL s args Ts own) (hM : vx_Met l y ws rm Pc Qc XC mc ms free) (cw : CallW R s args own C index y bytes maxL ret ws rm mc ms n) (hp : PreV s H C b Pc As)
    (hg : g.method = m) (hn : As.length = n) (hsize : g.locals.size = nL) (hstack : g.stack = As.reverse ++ .ref b :: rest) (hW : 2 * g.monitorRoom + (rest.map fun v => v.category).sum ≤ 8) (hdg : decode cc g.pc = .ok (.invokevirtual index, 3)) (hf : cells + mc ≤ R.cells ∧ slots + ms ≤ R.slots) :
    vx_Run p l e R s m args below meth c H locs cells slots mc ms g rest (Qc (Value.ref b :: As).toArray) XC free := by
  have hK : vx_Back l R p e below s args y 3 8 (PreOf R mc ms Pc) (PostOf Qc mc ms free) (vx_Post XC mc ms free) := vx_callBack cw.1 hM hp.1
  obtain ⟨⟨-, -, -, -, -, -, hcode, -, hy, hlen, hl⟩, hin, hse⟩ := cw
  obtain ⟨hx, hb, hml, ho, -⟩ := S
  obtain ⟨-, ⟨cellB, hcB, hoB, hclB⟩, hPc⟩ := hp
  intro T hT X
  rcases vx_callV X hx (C := C) (bytes := bytes) (maxL := maxL) (ret := ret) ho hl hin hse hcode hy hK (by rw [hT]; exact hcB) hoB hclB hg (hsize.trans hml.symm) (argsL := As) (rest := rest) (fun sig h => hn.trans (hlen sig h)) hstack hW (by rw [hb]; exact hdg)
    (fun vm₁ hW₁ => ⟨hf.1, hf.2, hPc (T.setVm vm₁) hT hW₁⟩) with ⟨v, vm₁, ⟨U', l2, c2, s2⟩, hW₁, X', ⟨g', mk, t, L, e1, e2, hq, h1, hL, h2, h3⟩, st⟩ | ⟨q, vm₁, ⟨U', l2, c2, s2⟩, hW₁, X', ⟨g', mk, t, L, E, ce, e1, e2, hq, hce, hcv, hcl, h1, hL, h2, h3⟩, st⟩
  · dsimp only [Pt.U, Pt.locs, Pt.cells, Pt.slots] at X' e1 e2 h1 h2 h3 st
    subst h1; subst h2; subst h3
    exact Or.inl ⟨v, (T.setVm vm₁).calling g' mk (Value.ref b :: As).toArray, t, U', L, hT, X', hL, e1, e2, hq, st⟩
  · dsimp only [Pt.U, Pt.locs, Pt.cells, Pt.slots] at X' e1 e2 h1 h2 h3 st hcl
    subst h1; subst h2; subst h3
    exact Or.inr ⟨q, (T.setVm vm₁).calling g' mk (Value.ref b :: As).toArray, t, U', L, E, ce, hT, X', hL, e1, e2, hq, hce, hcv, vx_cls hW₁ hcl, st⟩
theorem vx_runS (S : CallFix p m c cc nL s args Ts own) (hM : vx_Met l y ws rm Pc Qc XC mc ms free) (cw : CallB R s args own index y bytes maxL ret ws rm mc ms n ∧ (Cond.static y).before args s = true) (hp : PreS s H Pc As)
    (hg : g.method = m) (hn : As.length = n) (hsize : g.locals.size = nL) (hstack : g.stack = As.reverse ++ rest) (hW : 2 * g.monitorRoom + (rest.map fun v => v.category).sum ≤ 8) (hdg : decode cc g.pc = .ok (.invokestatic index, 3)) (hf : cells + mc ≤ R.cells ∧ slots + ms ≤ R.slots) :
    vx_Run p l e R s m args below meth c H locs cells slots mc ms g rest (Qc As.toArray) XC free := by
  have hK : vx_Back l R p e below s args y 3 8 (PreOf R mc ms Pc) (PostOf Qc mc ms free) (vx_Post XC mc ms free) := vx_callBack cw.1 hM hp.1
  obtain ⟨⟨-, -, -, -, -, -, hcode, hini, hy, hlen, hl⟩, hstt⟩ := cw
  obtain ⟨hx, hb, hml, ho, -⟩ := S
  intro T hT X
  rcases vx_callS X hx (bytes := bytes) (maxL := maxL) (ret := ret) ho hl hstt hini hcode hy hK hg (hsize.trans hml.symm) (argsL := As) (rest := rest) (fun sig h => hn.trans (hlen sig h)) hstack hW (by rw [hb]; exact hdg)
    (fun vm₁ hW₁ => ⟨hf.1, hf.2, hp.2 (T.setVm vm₁) hT hW₁⟩) with ⟨v, vm₁, ⟨U', l2, c2, s2⟩, hW₁, X', ⟨g', mk, t, L, e1, e2, hq, h1, hL, h2, h3⟩, st⟩ | ⟨q, vm₁, ⟨U', l2, c2, s2⟩, hW₁, X', ⟨g', mk, t, L, E, ce, e1, e2, hq, hce, hcv, hcl, h1, hL, h2, h3⟩, st⟩
  · dsimp only [Pt.U, Pt.locs, Pt.cells, Pt.slots] at X' e1 e2 h1 h2 h3 st
    subst h1; subst h2; subst h3
    exact Or.inl ⟨v, (T.setVm vm₁).calling g' mk As.toArray, t, U', L, hT, X', hL, e1, e2, hq, st⟩
  · dsimp only [Pt.U, Pt.locs, Pt.cells, Pt.slots] at X' e1 e2 h1 h2 h3 st hcl
    subst h1; subst h2; subst h3
    exact Or.inr ⟨q, (T.setVm vm₁).calling g' mk As.toArray, t, U', L, E, ce, hT, X', hL, e1, e2, hq, hce, hcv, vx_cls hW₁ hcl, st⟩
end Runs
section Rows
variable {p : Program} {l : Launch} {e : Env} {R : Room} {s : State} {m : MethodId} {args : Array Value} {below : List Frame} {meth : Method} {c : Code} {H : Heap} {locs : List Loc} {cells slots : Nat} {Q : State → Prop}
variable {mc ms : Nat} {free : Addr → Prop} {A0 A1 : Nat → Prop} {H0 : Heap} {a : Array Value} {pc : Nat} {ls : Array Slot} {st0 rest : List Value}
theorem vx_keep {st₀ t T' : State} {L : List Loc} (h0 : st₀.heap = H) (e1 : T'.heap = t.heap) (hS : va_S A0 H0 H locs) (hA : ∀ q, q < H.size → A1 q → A0 q) (hf : ∀ q, free q → A0 q) (hL : ∀ q ∈ L, free q.base) (hF : va_F A1 st₀ t) :
    H.size ≤ T'.heap.size ∧ (∀ q : Nat, q < H.size → ¬ A1 q → T'.heap[q]? = H[q]?) ∧ va_S A0 H0 T'.heap (locs ++ L) := by
  obtain ⟨hz, hk⟩ := hF
  rw [h0] at hz hk
  exact ⟨by rw [e1]; exact hz, fun q h1 h2 => by rw [e1]; exact hk q h1 h2,
    ⟨Nat.le_trans hS.1 (by rw [e1]; exact hz), fun q h1 h2 => by rw [e1, hk q (Nat.lt_of_lt_of_le h1 hS.1) (fun z => h2 (hA q (Nat.lt_of_lt_of_le h1 hS.1) z))]; exact hS.2.1 q h1 h2, fun q hq => by
      rcases List.mem_append.mp hq with h | h
      · exact hS.2.2 q h
      · exact hf _ (hL q h)⟩⟩
theorem vx_calli {S SX : Type} {post : Int32 → S → Prop} {px : SX → Prop} {B : S → State → Prop} {BX : String → SX → State → Prop} {AX : Nat → Prop} (hr : vx_Run p l e R s m args below meth c H locs cells slots mc ms (F0 m pc ls st0) rest (va_Qi post B A1 a) (vx_X px BX AX) free) (hS : va_S A0 H0 H locs) (hA : ∀ q, q < H.size → A1 q → A0 q) (hf : ∀ q, free q → A0 q) (hAX : ∀ q, q < H.size → AX q → A0 q)
    (kx : ∀ (E : String) (ce : Cell) (q9 : Addr) (u : SX) (t : State) (H1 : Heap) (locs1 : List Loc), t.heap = H1 → s.vm.Alike t.vm → px u → BX E u t → H.size ≤ H1.size → (∀ q : Nat, q < H.size → ¬ AX q → H1[q]? = H[q]?) → va_S A0 H0 H1 locs1 → H1[q9]? = some ce → ce.vm = .none → s.vm.findClass E = some ce.cls → vx_W p l e R s m args below meth c H1 locs1 (cells + mc) (slots + ms) Q (F0 m pc ls rest) q9)
    (kk : ∀ (r : Int32) (u : S) (t : State) (H1 : Heap) (locs1 : List Loc), t.heap = H1 → s.vm.Alike t.vm → post r u → B u t → H.size ≤ H1.size → (∀ q : Nat, q < H.size → ¬ A1 q → H1[q]? = H[q]?) → va_S A0 H0 H1 locs1 → W p l e R s m args below meth c H1 locs1 (cells + mc) (slots + ms) Q (F0 m (pc + 3) ls (.int r :: rest))) : W p l e R s m args below meth c H locs cells slots Q (F0 m pc ls st0) := by
  intro T hT X
  rcases hr T hT X with ⟨v, st₀, t, T', L, h0, X', hL, e1, e2, ⟨⟨r, u, hv, hp, hb⟩, hF⟩, st⟩ | ⟨q, st₀, t, T', L, E, ce, h0, X', hL, e1, e2, ⟨u, hp, hb, hF⟩, hce, hcv, hcl, st⟩
  · cases hv
    obtain ⟨k1, k2, k3⟩ := vx_keep h0 e1 hS hA hf hL hF
    obtain ⟨t2, a1, b1⟩ := kk r u t T'.heap (locs ++ L) e1.symm (by rw [← e2]; exact X'.warmed.alike) hp hb k1 k2 k3 T' rfl X'
    exact ⟨t2, st t2 a1, b1⟩
  · obtain ⟨k1, k2, k3⟩ := vx_keep h0 e1 hS hAX hf hL hF
    obtain ⟨t2, a1, b1⟩ := kx E ce q u t T'.heap (locs ++ L) e1.symm (by rw [← e2]; exact X'.warmed.alike) hp hb k1 k2 k3 (by rw [e1]; exact hce) hcv hcl T' rfl X'
    exact ⟨t2, st.trans a1, b1⟩
theorem vx_calll {S SX : Type} {post : Int64 → S → Prop} {px : SX → Prop} {B : S → State → Prop} {BX : String → SX → State → Prop} {AX : Nat → Prop} (hr : vx_Run p l e R s m args below meth c H locs cells slots mc ms (F0 m pc ls st0) rest (va_Ql post B A1 a) (vx_X px BX AX) free) (hS : va_S A0 H0 H locs) (hA : ∀ q, q < H.size → A1 q → A0 q) (hf : ∀ q, free q → A0 q) (hAX : ∀ q, q < H.size → AX q → A0 q)
    (kx : ∀ (E : String) (ce : Cell) (q9 : Addr) (u : SX) (t : State) (H1 : Heap) (locs1 : List Loc), t.heap = H1 → s.vm.Alike t.vm → px u → BX E u t → H.size ≤ H1.size → (∀ q : Nat, q < H.size → ¬ AX q → H1[q]? = H[q]?) → va_S A0 H0 H1 locs1 → H1[q9]? = some ce → ce.vm = .none → s.vm.findClass E = some ce.cls → vx_W p l e R s m args below meth c H1 locs1 (cells + mc) (slots + ms) Q (F0 m pc ls rest) q9)
    (kk : ∀ (r : Int64) (u : S) (t : State) (H1 : Heap) (locs1 : List Loc), t.heap = H1 → s.vm.Alike t.vm → post r u → B u t → H.size ≤ H1.size → (∀ q : Nat, q < H.size → ¬ A1 q → H1[q]? = H[q]?) → va_S A0 H0 H1 locs1 → W p l e R s m args below meth c H1 locs1 (cells + mc) (slots + ms) Q (F0 m (pc + 3) ls (.long r :: rest))) : W p l e R s m args below meth c H locs cells slots Q (F0 m pc ls st0) := by
  intro T hT X
  rcases hr T hT X with ⟨v, st₀, t, T', L, h0, X', hL, e1, e2, ⟨⟨r, u, hv, hp, hb⟩, hF⟩, st⟩ | ⟨q, st₀, t, T', L, E, ce, h0, X', hL, e1, e2, ⟨u, hp, hb, hF⟩, hce, hcv, hcl, st⟩
  · cases hv
    obtain ⟨k1, k2, k3⟩ := vx_keep h0 e1 hS hA hf hL hF
    obtain ⟨t2, a1, b1⟩ := kk r u t T'.heap (locs ++ L) e1.symm (by rw [← e2]; exact X'.warmed.alike) hp hb k1 k2 k3 T' rfl X'
    exact ⟨t2, st t2 a1, b1⟩
  · obtain ⟨k1, k2, k3⟩ := vx_keep h0 e1 hS hAX hf hL hF
    obtain ⟨t2, a1, b1⟩ := kx E ce q u t T'.heap (locs ++ L) e1.symm (by rw [← e2]; exact X'.warmed.alike) hp hb k1 k2 k3 (by rw [e1]; exact hce) hcv hcl T' rfl X'
    exact ⟨t2, st.trans a1, b1⟩
theorem vx_callf {S SX : Type} {post : UInt32 → S → Prop} {px : SX → Prop} {B : S → State → Prop} {BX : String → SX → State → Prop} {AX : Nat → Prop} (hr : vx_Run p l e R s m args below meth c H locs cells slots mc ms (F0 m pc ls st0) rest (va_Qf post B A1 a) (vx_X px BX AX) free) (hS : va_S A0 H0 H locs) (hA : ∀ q, q < H.size → A1 q → A0 q) (hf : ∀ q, free q → A0 q) (hAX : ∀ q, q < H.size → AX q → A0 q)
    (kx : ∀ (E : String) (ce : Cell) (q9 : Addr) (u : SX) (t : State) (H1 : Heap) (locs1 : List Loc), t.heap = H1 → s.vm.Alike t.vm → px u → BX E u t → H.size ≤ H1.size → (∀ q : Nat, q < H.size → ¬ AX q → H1[q]? = H[q]?) → va_S A0 H0 H1 locs1 → H1[q9]? = some ce → ce.vm = .none → s.vm.findClass E = some ce.cls → vx_W p l e R s m args below meth c H1 locs1 (cells + mc) (slots + ms) Q (F0 m pc ls rest) q9)
    (kk : ∀ (r : UInt32) (u : S) (t : State) (H1 : Heap) (locs1 : List Loc), t.heap = H1 → s.vm.Alike t.vm → post r u → B u t → H.size ≤ H1.size → (∀ q : Nat, q < H.size → ¬ A1 q → H1[q]? = H[q]?) → va_S A0 H0 H1 locs1 → W p l e R s m args below meth c H1 locs1 (cells + mc) (slots + ms) Q (F0 m (pc + 3) ls (.float r :: rest))) : W p l e R s m args below meth c H locs cells slots Q (F0 m pc ls st0) := by
  intro T hT X
  rcases hr T hT X with ⟨v, st₀, t, T', L, h0, X', hL, e1, e2, ⟨⟨r, u, hv, hp, hb⟩, hF⟩, st⟩ | ⟨q, st₀, t, T', L, E, ce, h0, X', hL, e1, e2, ⟨u, hp, hb, hF⟩, hce, hcv, hcl, st⟩
  · cases hv
    obtain ⟨k1, k2, k3⟩ := vx_keep h0 e1 hS hA hf hL hF
    obtain ⟨t2, a1, b1⟩ := kk r u t T'.heap (locs ++ L) e1.symm (by rw [← e2]; exact X'.warmed.alike) hp hb k1 k2 k3 T' rfl X'
    exact ⟨t2, st t2 a1, b1⟩
  · obtain ⟨k1, k2, k3⟩ := vx_keep h0 e1 hS hAX hf hL hF
    obtain ⟨t2, a1, b1⟩ := kx E ce q u t T'.heap (locs ++ L) e1.symm (by rw [← e2]; exact X'.warmed.alike) hp hb k1 k2 k3 (by rw [e1]; exact hce) hcv hcl T' rfl X'
    exact ⟨t2, st.trans a1, b1⟩
theorem vx_calld {S SX : Type} {post : UInt64 → S → Prop} {px : SX → Prop} {B : S → State → Prop} {BX : String → SX → State → Prop} {AX : Nat → Prop} (hr : vx_Run p l e R s m args below meth c H locs cells slots mc ms (F0 m pc ls st0) rest (va_Qd post B A1 a) (vx_X px BX AX) free) (hS : va_S A0 H0 H locs) (hA : ∀ q, q < H.size → A1 q → A0 q) (hf : ∀ q, free q → A0 q) (hAX : ∀ q, q < H.size → AX q → A0 q)
    (kx : ∀ (E : String) (ce : Cell) (q9 : Addr) (u : SX) (t : State) (H1 : Heap) (locs1 : List Loc), t.heap = H1 → s.vm.Alike t.vm → px u → BX E u t → H.size ≤ H1.size → (∀ q : Nat, q < H.size → ¬ AX q → H1[q]? = H[q]?) → va_S A0 H0 H1 locs1 → H1[q9]? = some ce → ce.vm = .none → s.vm.findClass E = some ce.cls → vx_W p l e R s m args below meth c H1 locs1 (cells + mc) (slots + ms) Q (F0 m pc ls rest) q9)
    (kk : ∀ (r : UInt64) (u : S) (t : State) (H1 : Heap) (locs1 : List Loc), t.heap = H1 → s.vm.Alike t.vm → post r u → B u t → H.size ≤ H1.size → (∀ q : Nat, q < H.size → ¬ A1 q → H1[q]? = H[q]?) → va_S A0 H0 H1 locs1 → W p l e R s m args below meth c H1 locs1 (cells + mc) (slots + ms) Q (F0 m (pc + 3) ls (.double r :: rest))) : W p l e R s m args below meth c H locs cells slots Q (F0 m pc ls st0) := by
  intro T hT X
  rcases hr T hT X with ⟨v, st₀, t, T', L, h0, X', hL, e1, e2, ⟨⟨r, u, hv, hp, hb⟩, hF⟩, st⟩ | ⟨q, st₀, t, T', L, E, ce, h0, X', hL, e1, e2, ⟨u, hp, hb, hF⟩, hce, hcv, hcl, st⟩
  · cases hv
    obtain ⟨k1, k2, k3⟩ := vx_keep h0 e1 hS hA hf hL hF
    obtain ⟨t2, a1, b1⟩ := kk r u t T'.heap (locs ++ L) e1.symm (by rw [← e2]; exact X'.warmed.alike) hp hb k1 k2 k3 T' rfl X'
    exact ⟨t2, st t2 a1, b1⟩
  · obtain ⟨k1, k2, k3⟩ := vx_keep h0 e1 hS hAX hf hL hF
    obtain ⟨t2, a1, b1⟩ := kx E ce q u t T'.heap (locs ++ L) e1.symm (by rw [← e2]; exact X'.warmed.alike) hp hb k1 k2 k3 (by rw [e1]; exact hce) hcv hcl T' rfl X'
    exact ⟨t2, st.trans a1, b1⟩
theorem vx_callv {S SX : Type} {post : S → Prop} {px : SX → Prop} {B : S → State → Prop} {BX : String → SX → State → Prop} {AX : Nat → Prop} (hr : vx_Run p l e R s m args below meth c H locs cells slots mc ms (F0 m pc ls st0) rest (va_Qv post B A1 a) (vx_X px BX AX) free) (hS : va_S A0 H0 H locs) (hA : ∀ q, q < H.size → A1 q → A0 q) (hf : ∀ q, free q → A0 q) (hAX : ∀ q, q < H.size → AX q → A0 q)
    (kx : ∀ (E : String) (ce : Cell) (q9 : Addr) (u : SX) (t : State) (H1 : Heap) (locs1 : List Loc), t.heap = H1 → s.vm.Alike t.vm → px u → BX E u t → H.size ≤ H1.size → (∀ q : Nat, q < H.size → ¬ AX q → H1[q]? = H[q]?) → va_S A0 H0 H1 locs1 → H1[q9]? = some ce → ce.vm = .none → s.vm.findClass E = some ce.cls → vx_W p l e R s m args below meth c H1 locs1 (cells + mc) (slots + ms) Q (F0 m pc ls rest) q9)
    (kk : ∀ (u : S) (t : State) (H1 : Heap) (locs1 : List Loc), t.heap = H1 → s.vm.Alike t.vm → post u → B u t → H.size ≤ H1.size → (∀ q : Nat, q < H.size → ¬ A1 q → H1[q]? = H[q]?) → va_S A0 H0 H1 locs1 → W p l e R s m args below meth c H1 locs1 (cells + mc) (slots + ms) Q (F0 m (pc + 3) ls (rest))) : W p l e R s m args below meth c H locs cells slots Q (F0 m pc ls st0) := by
  intro T hT X
  rcases hr T hT X with ⟨v, st₀, t, T', L, h0, X', hL, e1, e2, ⟨⟨u, hv, hp, hb⟩, hF⟩, st⟩ | ⟨q, st₀, t, T', L, E, ce, h0, X', hL, e1, e2, ⟨u, hp, hb, hF⟩, hce, hcv, hcl, st⟩
  · cases hv
    obtain ⟨k1, k2, k3⟩ := vx_keep h0 e1 hS hA hf hL hF
    obtain ⟨t2, a1, b1⟩ := kk u t T'.heap (locs ++ L) e1.symm (by rw [← e2]; exact X'.warmed.alike) hp hb k1 k2 k3 T' rfl X'
    exact ⟨t2, st t2 a1, b1⟩
  · obtain ⟨k1, k2, k3⟩ := vx_keep h0 e1 hS hAX hf hL hF
    obtain ⟨t2, a1, b1⟩ := kx E ce q u t T'.heap (locs ++ L) e1.symm (by rw [← e2]; exact X'.warmed.alike) hp hb k1 k2 k3 (by rw [e1]; exact hce) hcv hcl T' rfl X'
    exact ⟨t2, st.trans a1, b1⟩
/-- caught by the row x of this method's table; the rows ahead don't take it -/
theorem vx_catch {own name : String} {E : String} {ce : Cell} {q : Addr} (hown : s.vm.findClass own = some m.cls) (pre : List ExceptionTableEntry) (x : ExceptionTableEntry) (suf : List ExceptionTableEntry) (hsplit : c.exceptionTable.toList = pre ++ x :: suf)
    (hpass : ∀ z ∈ pre, covers z pc = false ∨ (z.catchType ≠ 0 ∧ ∃ nm : String, (Cond.classLink own z.catchType nm).before args s = true ∧ va_Nc E nm s)) (hx : covers x pc = true) (h0 : x.catchType ≠ 0)
    (hlink : (Cond.classLink own x.catchType name).before args s = true) (hcast : (Cond.castable E name).before args s = true) (hcell : H[q]? = some ce) (hv : ce.vm = .none) (hcl : s.vm.findClass E = some ce.cls)
    (kk : W p l e R s m args below meth c H locs cells slots Q (F0 m x.handlerPc ls [.ref q])) : vx_W p l e R s m args below meth c H locs cells slots Q (F0 m pc ls rest) q := by
  intro T hT X
  have hpl : e.platform.magicAccessors = ({} : Platform).magicAccessors := by rw [X.admits.platform]
  obtain ⟨c3, c4, hc3, hc4, hasg⟩ := Cond.castable_spec hcast
  cases Option.some.inj (hc3.symm.trans hcl)
  obtain ⟨c5, hc5, hcl5⟩ := Cond.classLink_spec hown hlink e.platform hpl
  cases Option.some.inj (hc4.symm.trans hc5)
  obtain ⟨vm', X', st⟩ := X.thenCaughtThrough q (g := F0 m pc ls rest) rfl (Steps.refl _) (by rw [hT]; exact hcell) (by rw [hv]; rfl) (by obtain ⟨k9, h9, -⟩ := Vm.findClass_spec hcl; exact ⟨k9, h9⟩) pre x suf hsplit
    (fun z hz => by
      rcases hpass z hz with h | ⟨hz0, nm, hl1, hn1⟩
      · exact Or.inl h
      · obtain ⟨c6, hc6, hcl6⟩ := Cond.classLink_spec hown hl1 e.platform hpl
        obtain ⟨a8, b8, h1, h2, h3⟩ := hn1
        cases Option.some.inj (h1.symm.trans hcl)
        cases Option.some.inj (h2.symm.trans hc6)
        exact Or.inr ⟨hz0, _, hcl6, h3⟩) hx (Or.inr ⟨h0, c4, hcl5, hasg⟩)
  obtain ⟨t, a1, b1⟩ := kk (T.setVm vm') hT X'
  exact ⟨t, st.trans a1, b1⟩
end Rows
section Ends
variable {p : Program} {l : Launch} {e : Env} {R : Room} {s : State} {m : MethodId} {args : Array Value} {below : List Frame} {meth : Method} {c : Code} {H : Heap} {locs : List Loc} {cells slots : Nat} {Q : State → Prop}
variable {mc ms : Nat} {free : Addr → Prop} {A0 A1 : Nat → Prop} {H0 : Heap} {a : Array Value} {ls : Array Slot} {st0 rest : List Value}
variable {Qc : Array Value → State → Outcome → State → Prop} {XC : String → State → State → Prop}
/-- what a body that may throw owes at its end -/
def vx_MQ (below : List Frame) (Qc : Array Value → State → Outcome → State → Prop) (XC : String → State → State → Prop) (a : Array Value) (s : State) (mc ms : Nat) (free : Addr → Prop) : State → Prop := fun t =>
  ∃ o, t.status = .running ∧ Ended t below o ∧ vx_Q Qc XC mc ms free a s o t
theorem vx_ret {g : JFrame} {mc ms : Nat} (k : W p l e R s m args below meth c H locs cells slots (MQ below Qc args s mc ms free) g) : W p l e R s m args below meth c H locs cells slots (vx_MQ below Qc XC args s mc ms free) g := by
  intro T hT X
  obtain ⟨t, a1, o, b1, b2, b3, b4⟩ := k T hT X
  exact ⟨t, a1, o, b1, b2, Or.inl ⟨b3, b4⟩⟩
/-- not caught here: it goes on to the caller -/
theorem vx_widen {g : JFrame} {q : Addr} {k n : Nat} (h1 : cells ≤ k) (h2 : slots ≤ n) (kk : vx_W p l e R s m args below meth c H locs k n Q g q) : vx_W p l e R s m args below meth c H locs cells slots Q g q := fun T hT X => kk T hT (stand_widen X h1 h2)
theorem vx_out {pc : Nat} {E : String} {ce : Cell} {q : Addr} {mc ms : Nat} (hout : ∀ x ∈ c.exceptionTable.toList, covers x pc = false) (hlocks : meth.locks = false) (hcell : H[q]? = some ce) (hv : ce.vm = .none) (hcl : s.vm.findClass E = some ce.cls)
    (hx : ∀ t : State, t.heap = H → s.vm.Alike t.vm → XC E s t) (hf : ∀ z ∈ locs, free z.base) (hc : cells ≤ mc) (hs : slots ≤ ms) :
    vx_W p l e R s m args below meth c H locs cells slots (vx_MQ below Qc XC args s mc ms free) (F0 m pc ls rest) q := by
  intro T hT X
  obtain ⟨st1, hrun, hend, hW, hsm⟩ := X.leaveThrown q (g := F0 m pc ls rest) rfl rfl rfl hout hlocks
  have hcell9 : (T.setFrames (.throwing q :: below)).heap[q]? = some ce := by
    show T.heap[q]? = some ce
    rw [hT]; exact hcell
  exact ⟨_, st1, .threw q, hrun, hend, Or.inr ⟨q, rfl, E, ce, locs, hx _ hT hW.alike, hcell9, hv, hcl, hW, hsm.mono hc hs, hf⟩⟩
theorem vx_frame {U : State} {k n : Nat} (h : s.sameButNew ({ U with vm := s.vm } : State) locs k n) : s.heap.size ≤ U.heap.size ∧ ∀ q : Nat, q < s.heap.size → (∀ z ∈ locs, z.base ≠ q) → U.heap[q]? = s.heap[q]? := by
  obtain ⟨-, h2, -, -, -, h6⟩ := h
  refine ⟨h2, fun q hq hz => ?_⟩
  obtain ⟨c9, e1, e2, e3, e4⟩ := h6 q _ (Array.getElem?_eq_getElem hq)
  have hs : c9.slots = (s.heap[q]).slots := Array.ext_getElem? fun i => e4 i fun hm => hz _ hm rfl
  have h9 : c9 = s.heap[q] := by
    rw [hs] at e2
    exact e2
  have e5 : U.heap[q]? = some c9 := e1
  rw [e5, h9, Array.getElem?_eq_getElem hq]
/-- the words of a throw but the four that speak of the heap -/
def vx_no (w : Cond) : Bool := decide (w ≠ .isRef (.static Bundle.tN "UNASSIGNED_STACK" Bundle.steD)) && decide (w ≠ .isRef (.static Bundle.tN "SUPPRESSED_SENTINEL" Bundle.listD)) && decide (w ≠ .laysStatic Bundle.tN "UNASSIGNED_STACK" Bundle.steD) && decide (w ≠ .laysStatic Bundle.tN "SUPPRESSED_SENTINEL" Bundle.listD)
def vx_at0 (own : String) (ic : Nat) (X : String) (names : List String) : List Cond := (Bundle.ownAtoms0 own ic X names).filter vx_no
def vx_atS (own : String) (ic : Nat) (X : String) (names : List String) : List Cond := (Bundle.ownAtoms own ic X names).filter vx_no
/-- a word that the tables alone decide, or a good one -/
def vx_ot (w : Cond) : Bool := w.onTables || goodWord w
theorem vx_ot_at {args a' : Array Value} {s U : State} {w : Cond} (hW : s.WarmedH U.vm) (hvm : s.vm = U.vm) (hg : vx_ot w = true) (h : w.before args s = true) : w.before a' U = true := by
  simp only [vx_ot, Bool.or_eq_true] at hg
  rcases hg with hg | hg
  · exact va_tabs hg hvm h
  · exact word_at hW (good_of_word hg) h
/-- a list's words: the good ones out of the method's own list, the others by premises of their own -/
theorem vx_hat {args : Array Value} {s : State} {L B : List Cond} (h1 : ∀ w ∈ L.filter goodWord, w.before args s = true) (h2 : ∀ w ∈ L.filter (fun w => !goodWord w), w ∈ B) (h3 : ∀ w ∈ B, w.before args s = true) : ∀ w ∈ L, w.before args s = true := by
  intro w hw
  by_cases g : goodWord w = true
  · exact h1 w (List.mem_filter.mpr ⟨hw, g⟩)
  · refine h3 w (h2 w (List.mem_filter.mpr ⟨hw, ?_⟩))
    show (!goodWord w) = true
    cases hgw : goodWord w
    · rfl
    · exact absurd hgw g
theorem vx_c {args : Array Value} {s : State} {w : Cond} {B : List Cond} (h : w.before args s = true) (t : ∀ w ∈ B, w.before args s = true) : ∀ w' ∈ w :: B, w'.before args s = true := fun w' h' => (List.mem_cons.mp h').elim (fun e => by rw [e]; exact h) (t w')
theorem vx_n {args : Array Value} {s : State} : ∀ w ∈ ([] : List Cond), w.before args s = true := fun _ h => nomatch h
theorem vx_own {args : Array Value} {s : State} {L : List Cond} (h1 : ∀ w ∈ L.filter vx_no, w.before args s = true)
    (hU : (Cond.isRef (.static Bundle.tN "UNASSIGNED_STACK" Bundle.steD)).before args s = true) (hN : (Cond.isRef (.static Bundle.tN "SUPPRESSED_SENTINEL" Bundle.listD)).before args s = true)
    (lU : (Cond.laysStatic Bundle.tN "UNASSIGNED_STACK" Bundle.steD).before args s = true) (lN : (Cond.laysStatic Bundle.tN "SUPPRESSED_SENTINEL" Bundle.listD).before args s = true) : ∀ w ∈ L, w.before args s = true := by
  intro w hw
  by_cases e1 : w = .isRef (.static Bundle.tN "UNASSIGNED_STACK" Bundle.steD)
  · rw [e1]; exact hU
  · by_cases e2 : w = .isRef (.static Bundle.tN "SUPPRESSED_SENTINEL" Bundle.listD)
    · rw [e2]; exact hN
    · by_cases e3 : w = .laysStatic Bundle.tN "UNASSIGNED_STACK" Bundle.steD
      · rw [e3]; exact lU
      · by_cases e4 : w = .laysStatic Bundle.tN "SUPPRESSED_SENTINEL" Bundle.listD
        · rw [e4]; exact lN
        · exact h1 w (List.mem_filter.mpr ⟨hw, by unfold vx_no; rw [decide_eq_true e1, decide_eq_true e2, decide_eq_true e3, decide_eq_true e4]; rfl⟩)
/-- where a static field lies, its class's statics cell in H -/
def vx_L (C n d : String) (A : Nat → Prop) (U : State) (H : Heap) : Prop := ∃ (c : ClassId) (k : Class) (i : Nat) (f : Field) (a : Nat) (cell : Cell), U.vm.findClass C = some c ∧ U.fieldFound? C n d = some (c, k, i, f) ∧ f.isStatic = true ∧ k.statics = some a ∧ H[a]? = some cell ∧ cell.vm.isStatics = true ∧ cell.cls = c ∧ f.slot < cell.slots.size ∧ k.staticTypes[f.slot]? = some f.type ∧ ¬ A a
theorem vx_L.moved {C n d : String} {A : Nat → Prop} {u U : State} {H : Heap} (hvm : u.vm.Alike U.vm) (h : vx_L C n d A u H) : vx_L C n d A U H := by
  obtain ⟨c, k, i, f, a, cell, h1, h2, h3, h4, h5, h6, h7, h8, h9, h10⟩ := h
  obtain ⟨k', hi', he⟩ := State.fieldFound?_setVm hvm h2
  exact ⟨c, k', i, f, a, cell, by rw [hvm.findClass]; exact h1, hi', h3, by rw [he]; exact h4, h5, h6, h7, h8, by rw [he]; exact h9, h10⟩
theorem vx_L.kept {C n d : String} {A : Nat → Prop} {U : State} {H H1 : Heap} (h : vx_L C n d A U H) (hq : ∀ a : Nat, a < H.size → ¬ A a → H1[a]? = H[a]?) : vx_L C n d A U H1 := by
  obtain ⟨c, k, i, f, a, cell, h1, h2, h3, h4, h5, h6, h7, h8, h9, h10⟩ := h
  exact ⟨c, k, i, f, a, cell, h1, h2, h3, h4, by rw [hq a (Array.getElem?_eq_some_iff.mp h5).1 h10]; exact h5, h6, h7, h8, h9, h10⟩
theorem vx_L.narrow {C n d : String} {A B : Nat → Prop} {U : State} {H : Heap} (h : vx_L C n d A U H) (hAB : ∀ q, B q → A q) : vx_L C n d B U H := by
  obtain ⟨c, k, i, f, a, cell, h1, h2, h3, h4, h5, h6, h7, h8, h9, h10⟩ := h
  exact ⟨c, k, i, f, a, cell, h1, h2, h3, h4, h5, h6, h7, h8, h9, fun z => h10 (hAB _ z)⟩
theorem vx_L.word {C n d : String} {A : Nat → Prop} {s : State} {args : Array Value} (h : vx_L C n d A s s.heap) : (Cond.laysStatic C n d).before args s = true := by
  obtain ⟨c, k, i, f, a, cell, h1, h2, h3, h4, h5, h6, h7, h8, h9, -⟩ := h
  show (Cond.laysStatic C n d).holds args s none s [] = true
  exact Cond.laysStatic_of h1 h2 h3 h4 h5 h6 h7 h8 h9
/-- .. and what it holds: null or some reference -/
def vx_Zq (C n d : String) (A : Nat → Prop) (U : State) (H : Heap) : Prop := va_Zq C n d A U H ∧ vx_L C n d A U H
theorem vx_Zq.moved {C n d : String} {A : Nat → Prop} {u U : State} {H : Heap} (hvm : u.vm.Alike U.vm) (h : vx_Zq C n d A u H) : vx_Zq C n d A U H := ⟨va_Zq.moved hvm h.1, vx_L.moved hvm h.2⟩
theorem vx_Zq.kept {C n d : String} {A : Nat → Prop} {U : State} {H H1 : Heap} (h : vx_Zq C n d A U H) (hq : ∀ a : Nat, a < H.size → ¬ A a → H1[a]? = H[a]?) : vx_Zq C n d A U H1 := ⟨va_Zq.kept h.1 hq, vx_L.kept h.2 hq⟩
theorem vx_Zq.narrow {C n d : String} {A B : Nat → Prop} {U : State} {H : Heap} (h : vx_Zq C n d A U H) (hAB : ∀ q, B q → A q) : vx_Zq C n d B U H := ⟨va_Zq.narrow h.1 hAB, vx_L.narrow h.2 hAB⟩
theorem vx_Zqof {args : Array Value} {s : State} {C n d : String} {A : Nat → Prop} (hl : (Cond.laysStatic C n d).before args s = true) (hini : (Cond.initialized C).before args s = true) (h : (Cond.isRef (.static C n d)).before args s = true) (hA : ∀ a : Nat, a < s.heap.size → ¬ A a) : vx_Zq C n d A s s.heap := by
  refine ⟨va_Zqof hl hini h hA, ?_⟩
  obtain ⟨c, k, i, f, a, cell, h1, h2, h3, h4, h5, h6, h7, h8, h9⟩ := Cond.laysStatic_spec hl
  exact ⟨c, k, i, f, a, cell, h1, h2, h3, h4, h5, h6, h7, h8, h9, hA a (Array.getElem?_eq_some_iff.mp h5).1⟩
theorem vx_isRef {C n d : String} {v : Value} {A : Nat → Prop} {s : State} {args : Array Value} (h : va_Z C n d v A s s.heap) (hv : v.isRef = true) : (Cond.isRef (.static C n d)).before args s = true := by
  obtain ⟨cf, kf, fi, f, a, cell, h1, h2, h3, h4, h5, h6, h7, -⟩ := h
  have he : (Term.static C n d).eval args s none [] s = some v := by
    simp [Term.eval, State.fieldNamed?, h1, h2, h4, h5, h6, h7]
  simp only [Cond.before, Cond.holds, Cond.value, he]
  cases v <;> simp_all [Value.isRef]
theorem vx_isRefq {C n d : String} {A : Nat → Prop} {s : State} {args : Array Value} (h : va_Zq C n d A s s.heap) : (Cond.isRef (.static C n d)).before args s = true := by
  rcases h with h | ⟨t, h⟩
  · exact vx_isRef h rfl
  · exact vx_isRef h rfl
/-- the same frame, seen from here: as if the method were called anew in this heap -/
theorem vx_rebase {T : State} (X : Stand p l e R s m args below meth c T locs cells slots) {R' : Room} (hf : R'.frames ≤ R.frames) (hl : R'.locals ≤ R.locals) (hc : cells + R'.cells ≤ R.cells) (hs : slots + R'.slots ≤ R.slots) :
    Stand p l e R' ((T.setVm s.vm).setFrames (.invoking m args :: below)) m args below meth c T [] 0 0 := by
  have htop : (T.setVm s.vm).topJava?.isSome := X.here.top
  have hF : ((T.setVm s.vm).setFrames (.invoking m args :: below)).frames = .invoking m args :: below := State.frames_setFrames _ (State.cur_lt_of_top htop)
  obtain ⟨g₀, hg0⟩ := Option.isSome_iff_exists.mp htop
  obtain ⟨r, hr⟩ := State.topJava?_eq_some.mp hg0
  have hl9 : e.platform.stackLimits (T.setVm s.vm).me = e.platform.stackLimits s.me := X.limits
  have hb9 : (T.setVm s.vm).me.stackBytes = s.me.stackBytes := X.bytes
  refine ⟨X.admits, X.cas, X.clock, hF, ?_, X.hears, X.method, X.code, X.here, X.tail, X.warmed, ?_, ?_, ?_⟩
  · have h := X.room
    have hU : ((T.setVm s.vm).setFrames (.invoking m args :: below)).localsInUse = s.localsInUse := by
      rw [State.localsInUse_invoking hF (meth := meth) (c := c) X.method X.code, State.localsInUse_invoking X.frames X.method X.code]
    simp only [State.hasRoom, Bool.and_eq_true, decide_eq_true_eq] at h ⊢
    obtain ⟨⟨⟨⟨h1, h2, h3, h4, h5, h6⟩, h7⟩, h8⟩, h9⟩ := h
    rw [X.frames, List.length_cons] at h2 h3
    have q1 := X.heapSize
    have q2 := X.used
    simp only [hF, hU, List.length_cons, State.stackLimits_setFrames, State.stackBytes_setFrames, hl9, hb9]
    refine ⟨⟨⟨⟨by omega, by omega, by omega, by omega, by omega, h6⟩, ?_⟩, ?_⟩, X.book⟩
    · show T.heap.size + R'.cells ≤ e.platform.maxCells
      omega
    · show T.slotsUsed + R'.slots ≤ e.platform.maxSlots
      omega
  · rw [State.stackLimits_setFrames]; rfl
  · rw [State.stackBytes_setFrames]; rfl
  · refine ⟨?_, Nat.le_refl _, Nat.le_refl _, ?_, ?_, fun a c9 h9 => ⟨c9, h9, rfl, rfl, fun _ _ => rfl⟩⟩
    · obtain ⟨t, ht, -⟩ := State.frames_cons hr
      show T.setVm s.vm = { ((T.setVm s.vm).setFrames (.invoking m args :: below)).setFrames (T.setVm s.vm).frames with heap := T.heap, slotsUsed := T.slotsUsed }
      rw [State.setFrames_setFrames, State.setFrames_self ht]
      rfl
    · show T.slotsUsed = T.slotsUsed + ((T.heap.toList.drop T.heap.size).map (·.slots.size)).sum
      rw [List.drop_eq_nil_of_le (Nat.le_of_eq Array.length_toList)]
      rfl
    · show ((T.heap.toList.drop T.heap.size).map (·.slots.size)).sum ≤ 0
      rw [List.drop_eq_nil_of_le (Nat.le_of_eq Array.length_toList)]
      exact Nat.le_refl _
/-- 'throw new E()': new; dup; invokespecial; athrow -/
theorem vx_throw0 {cc : ByteArray} {pc : Nat} (hexec : p.tables.exec = Jvm.exec) (hb : c.code = cc) (hl : l.stackTraces = false) {own cls : String} {names : List String} {ik ic mc ms : Nat} {A : Nat → Prop}
    (hown : s.vm.findClass own = some m.cls) (hcls : Bundle.fit cls = true) (hnames : ∀ n ∈ names, Bundle.fit n = true)
    (hk : (Cond.classLink own ik cls).before args s = true) (hini : (Cond.initialized cls).before args s = true) (hat : ∀ w ∈ vx_at0 own ic cls names, w.before args s = true)
    (hgood : ∀ w ∈ Cond.classLink own ik cls :: Cond.initialized cls :: vx_at0 own ic cls names, vx_ot w = true)
    (hU : vx_Zq Bundle.tN "UNASSIGNED_STACK" Bundle.steD A s s.heap) (hN : vx_Zq Bundle.tN "SUPPRESSED_SENTINEL" Bundle.listD A s s.heap) (hS : va_S A s.heap H locs) (hsize : ls.size = c.maxLocals)
    (d0 : decode cc pc = .ok (.new ik, 3)) (d3 : decode cc (pc + 3) = .ok (.dup, 1)) (d4 : decode cc (pc + 4) = .ok (.invokespecial ic, 3)) (d7 : decode cc (pc + 7) = .ok (.athrow, 1))
    (hout : ∀ x ∈ c.exceptionTable.toList, covers x (pc + 7) = false)
    (hRframes : names.length + 3 < R.frames) (hRlocals : (rest.map fun v => v.category).sum + (13 * (names.length + 1) + 42) ≤ R.locals) (hRcells : cells + 1 ≤ R.cells) (hRslots : slots + 6 ≤ R.slots) (hlocks : meth.locks = false)
    (hx : ∀ t : State, s.vm.Alike t.vm → H.size ≤ t.heap.size → (∀ q : Nat, q < H.size → t.heap[q]? = H[q]?) → XC cls s t)
    (hf : ∀ z ∈ locs, free z.base) (hc : cells + 1 ≤ mc) (hs : slots + 6 ≤ ms) :
    W p l e R s m args below meth c H locs cells slots (vx_MQ below Qc XC args s mc ms free) (F0 m pc ls rest) := by
  intro T hT X
  have htr : e.platform.stackTraces = false := (show e.platform.stackTraces = l.stackTraces by rw [X.admits.platform]).trans hl
  have Y := vx_rebase X (R' := { frames := R.frames, locals := R.locals, cells := 1, slots := 6 }) (Nat.le_refl _) (Nat.le_refl _) hRcells hRslots
  obtain ⟨s', hA⟩ : ∃ z, z = (T.setVm s.vm).setFrames (.invoking m args :: below) := ⟨_, rfl⟩
  rw [← hA] at Y
  have hvm : s'.vm = s.vm := by rw [hA]; rfl
  have hhp : s'.heap = H := by rw [hA]; exact hT
  have hW0 : s.WarmedH s'.vm := by rw [hvm]; exact State.WarmedH.refl s
  have hat' : ∀ w ∈ vx_at0 own ic cls names, w.before args s' = true := fun w hw => vx_ot_at hW0 hvm.symm (hgood w (List.mem_cons_of_mem _ (List.mem_cons_of_mem _ hw))) (hat w hw)
  have hk' : (Cond.classLink own ik cls).before args s' = true := vx_ot_at hW0 hvm.symm (hgood _ List.mem_cons_self) hk
  have hini' : (Cond.initialized cls).before args s' = true := vx_ot_at hW0 hvm.symm (hgood _ (List.mem_cons_of_mem _ List.mem_cons_self)) hini
  have hU' : vx_Zq Bundle.tN "UNASSIGNED_STACK" Bundle.steD A s' s'.heap := by rw [hhp]; exact vx_Zq.moved hW0.alike (hU.kept hS.2.1)
  have hN' : vx_Zq Bundle.tN "SUPPRESSED_SENTINEL" Bundle.listD A s' s'.heap := by rw [hhp]; exact vx_Zq.moved hW0.alike (hN.kept hS.2.1)
  have h : ∀ w ∈ Bundle.ownAtoms0 own ic cls names, w.before args s' = true := vx_own hat' (vx_isRefq hU'.1) (vx_isRefq hN'.1) hU'.2.word hN'.2.word
  have hown' : s'.vm.findClass own = some m.cls := by rw [hvm]; exact hown
  have hins : (Cond.instantiable cls 6).before args s' = true := h _ (by simp [Bundle.ownAtoms0])
  obtain ⟨vm₁, cX, kX, hfX, hkX, -, -, X₁, st1⟩ := Y.newCold hexec (own := own) (C := cls) (index := ik) (n := 6) hown' hk' hins hini'
    (g := F0 m pc ls rest) rfl (by rw [hb]; exact d0) (Nat.le_refl _) (Nat.le_refl _)
  generalize hT1 : (T.setVm vm₁).pushCell { cls := cX, slots := kX.instanceTypes.map defaultValue, vm := .none } = T1 at X₁ st1
  have hcat : (Value.ref T.heap.size).category = 1 := rfl
  have hcellA : T1.heap[T.heap.size]? = some (freshCell cX kX) := by rw [← hT1]; exact State.heap_pushCell_size _ _
  have d3' : decode c.code (pc + 3) = .ok (.dup, 1) := by rw [hb]; exact d3
  obtain ⟨U, hsteps, hrun, hend, hW, hsame, ce, hce, hO⟩ := X₁.ctorThrow0 hexec htr (own := own) (cls := cls) (names := names) (ic := ic) hown' hcls hnames h (fun x hx => nomatch hx) hfX hkX hcellA (by rw [hhp, hT]; exact Nat.le_refl _)
    (g := { method := m, pc := pc + 4, locals := ls, stack := .ref T.heap.size :: .ref T.heap.size :: rest, locked := none }) rfl hsize rfl rfl (rest := rest) rfl
    (by rw [hb]; exact d4) (by rw [hb]; exact d7) hout hRframes (by simp only [List.map_cons, List.sum_cons, hcat]; omega) hlocks
  obtain ⟨f1, f2⟩ := vx_frame hsame
  rw [hhp] at f1 f2
  have hWs : s.WarmedH U.vm := State.WarmedH.trans hW0 hW
  have hcl : s.vm.findClass cls = some ce.cls := by
    have h9 := hO.cls
    rw [hvm] at h9
    exact h9
  have hall : s.sameButNew ({ U with vm := s.vm } : State) locs mc ms := by
    subst hA
    obtain ⟨e1, e2⟩ := hsame
    rw [State.setFrames_setFrames] at e1
    have h2 : (T.setVm s.vm).sameButNew ({ U with vm := s.vm } : State) [] (0 + 1) (0 + 6) := ⟨e1, e2⟩
    have h3 := X.same.trans h2
    rw [List.append_nil] at h3
    exact h3.mono hc hs
  refine ⟨U, ?_, .threw T.heap.size, hrun, hend, Or.inr ⟨T.heap.size, rfl, cls, ce, locs, hx U hWs.alike f1 (fun q hq => f2 q hq (fun z hz => nomatch hz)), hce, hO.vm, hcl, hWs, hall, hf⟩⟩
  refine st1 _ ?_
  show Steps p.tables e below (T1.setTop { method := m, pc := pc + 3, locals := ls, stack := .ref T.heap.size :: rest, locked := none }) _
  jvm_step X₁.here [X₁.here.top, hexec, d3', Value.category]
  exact hsteps
/-- 'throw new E("text")': new; dup; ldc; invokespecial; athrow -/
theorem vx_throwS {cc : ByteArray} {pc : Nat} (hexec : p.tables.exec = Jvm.exec) (hb : c.code = cc) (hl : l.stackTraces = false) {own cls text : String} {names : List String} {ik is ic mc ms sa : Nat} {A : Nat → Prop}
    (hown : s.vm.findClass own = some m.cls) (hcls : Bundle.fit cls = true) (hnames : ∀ n ∈ names, Bundle.fit n = true)
    (hk : (Cond.classLink own ik cls).before args s = true) (hini : (Cond.initialized cls).before args s = true) (hstr : vk_R own is text sa s) (hat : ∀ w ∈ vx_atS own ic cls names, w.before args s = true)
    (hgood : ∀ w ∈ Cond.classLink own ik cls :: Cond.initialized cls :: vx_atS own ic cls names, vx_ot w = true)
    (hU : vx_Zq Bundle.tN "UNASSIGNED_STACK" Bundle.steD A s s.heap) (hN : vx_Zq Bundle.tN "SUPPRESSED_SENTINEL" Bundle.listD A s s.heap) (hS : va_S A s.heap H locs) (hsize : ls.size = c.maxLocals)
    (d0 : decode cc pc = .ok (.new ik, 3)) (d3 : decode cc (pc + 3) = .ok (.dup, 1)) (d4 : decode cc (pc + 4) = .ok (.ldc is, 2)) (d6 : decode cc (pc + 6) = .ok (.invokespecial ic, 3)) (d9 : decode cc (pc + 9) = .ok (.athrow, 1))
    (hout : ∀ x ∈ c.exceptionTable.toList, covers x (pc + 9) = false)
    (hRframes : names.length + 3 < R.frames) (hRlocals : (rest.map fun v => v.category).sum + (13 * (names.length + 1) + 43) ≤ R.locals) (hRcells : cells + 1 ≤ R.cells) (hRslots : slots + 6 ≤ R.slots) (hlocks : meth.locks = false)
    (hx : ∀ t : State, s.vm.Alike t.vm → H.size ≤ t.heap.size → (∀ q : Nat, q < H.size → t.heap[q]? = H[q]?) → XC cls s t)
    (hf : ∀ z ∈ locs, free z.base) (hc : cells + 1 ≤ mc) (hs : slots + 6 ≤ ms) :
    W p l e R s m args below meth c H locs cells slots (vx_MQ below Qc XC args s mc ms free) (F0 m pc ls rest) := by
  intro T hT X
  have htr : e.platform.stackTraces = false := (show e.platform.stackTraces = l.stackTraces by rw [X.admits.platform]).trans hl
  have Y := vx_rebase X (R' := { frames := R.frames, locals := R.locals, cells := 1, slots := 6 }) (Nat.le_refl _) (Nat.le_refl _) hRcells hRslots
  obtain ⟨s', hA⟩ : ∃ z, z = (T.setVm s.vm).setFrames (.invoking m args :: below) := ⟨_, rfl⟩
  rw [← hA] at Y
  have hvm : s'.vm = s.vm := by rw [hA]; rfl
  have hhp : s'.heap = H := by rw [hA]; exact hT
  have hW0 : s.WarmedH s'.vm := by rw [hvm]; exact State.WarmedH.refl s
  have hat' : ∀ w ∈ vx_atS own ic cls names, w.before args s' = true := fun w hw => vx_ot_at hW0 hvm.symm (hgood w (List.mem_cons_of_mem _ (List.mem_cons_of_mem _ hw))) (hat w hw)
  have hk' : (Cond.classLink own ik cls).before args s' = true := vx_ot_at hW0 hvm.symm (hgood _ List.mem_cons_self) hk
  have hini' : (Cond.initialized cls).before args s' = true := vx_ot_at hW0 hvm.symm (hgood _ (List.mem_cons_of_mem _ List.mem_cons_self)) hini
  have hU' : vx_Zq Bundle.tN "UNASSIGNED_STACK" Bundle.steD A s' s'.heap := by rw [hhp]; exact vx_Zq.moved hW0.alike (hU.kept hS.2.1)
  have hN' : vx_Zq Bundle.tN "SUPPRESSED_SENTINEL" Bundle.listD A s' s'.heap := by rw [hhp]; exact vx_Zq.moved hW0.alike (hN.kept hS.2.1)
  have h : ∀ w ∈ Bundle.ownAtoms own ic cls names, w.before args s' = true := vx_own hat' (vx_isRefq hU'.1) (vx_isRefq hN'.1) hU'.2.word hN'.2.word
  have hown' : s'.vm.findClass own = some m.cls := by rw [hvm]; exact hown
  have hins : (Cond.instantiable cls 6).before args s' = true := h _ (by simp [Bundle.ownAtoms])
  obtain ⟨vm₁, cX, kX, hfX, hkX, -, -, X₁, st1⟩ := Y.newCold hexec (own := own) (C := cls) (index := ik) (n := 6) hown' hk' hins hini'
    (g := F0 m pc ls rest) rfl (by rw [hb]; exact d0) (Nat.le_refl _) (Nat.le_refl _)
  generalize hT1 : (T.setVm vm₁).pushCell { cls := cX, slots := kX.instanceTypes.map defaultValue, vm := .none } = T1 at X₁ st1
  have hcat : (Value.ref T.heap.size).category = 1 := rfl
  have hcellA : T1.heap[T.heap.size]? = some (freshCell cX kX) := by rw [← hT1]; exact State.heap_pushCell_size _ _
  have d3' : decode c.code (pc + 3) = .ok (.dup, 1) := by rw [hb]; exact d3
  have d4' : decode c.code (pc + 4) = .ok (.ldc is, 2) := by rw [hb]; exact d4
  have hstr' : vk_R own is text sa s' := vk_R.warm hW0 hstr
  obtain ⟨U, hsteps, hrun, hend, hW, hsame, ce, hce, hO⟩ := X₁.ctorThrowS hexec htr (own := own) (cls := cls) (names := names) (ic := ic) hown' hcls hnames h (fun x hx => nomatch hx) hfX hkX hcellA (by rw [hhp, hT]; exact Nat.le_refl _) (msg := .ref sa) rfl
    (g := { method := m, pc := pc + 6, locals := ls, stack := .ref sa :: .ref T.heap.size :: .ref T.heap.size :: rest, locked := none }) rfl hsize rfl rfl (rest := rest) rfl
    (by rw [hb]; exact d6) (by rw [hb]; exact d9) hout hRframes (by simp only [List.map_cons, List.sum_cons, hcat]; omega) hlocks
  obtain ⟨f1, f2⟩ := vx_frame hsame
  rw [hhp] at f1 f2
  have hWs : s.WarmedH U.vm := State.WarmedH.trans hW0 hW
  have hcl : s.vm.findClass cls = some ce.cls := by
    have h9 := hO.cls
    rw [hvm] at h9
    exact h9
  have hall : s.sameButNew ({ U with vm := s.vm } : State) locs mc ms := by
    subst hA
    obtain ⟨e1, e2⟩ := hsame
    rw [State.setFrames_setFrames] at e1
    have h2 : (T.setVm s.vm).sameButNew ({ U with vm := s.vm } : State) [] (0 + 1) (0 + 6) := ⟨e1, e2⟩
    have h3 := X.same.trans h2
    rw [List.append_nil] at h3
    exact h3.mono hc hs
  refine ⟨U, ?_, .threw T.heap.size, hrun, hend, Or.inr ⟨T.heap.size, rfl, cls, ce, locs, hx U hWs.alike f1 (fun q hq => f2 q hq (fun z hz => nomatch hz)), hce, hO.vm, hcl, hWs, hall, hf⟩⟩
  refine st1 _ ?_
  show Steps p.tables e below (T1.setTop { method := m, pc := pc + 3, locals := ls, stack := .ref T.heap.size :: rest, locked := none }) _
  jvm_step X₁.here [X₁.here.top, hexec, d3', Value.category]
  exact X₁.ldcString hexec (own := own) (text := text) (index := is) (a := sa) hown' hstr'.1 hstr'.2
    (g := { method := m, pc := pc + 4, locals := ls, stack := .ref T.heap.size :: .ref T.heap.size :: rest, locked := none }) rfl d4' _ hsteps
/-- 'throw new E("text")', the text by a wide index -/
theorem vx_throwSW {cc : ByteArray} {pc : Nat} (hexec : p.tables.exec = Jvm.exec) (hb : c.code = cc) (hl : l.stackTraces = false) {own cls text : String} {names : List String} {ik is ic mc ms sa : Nat} {A : Nat → Prop}
    (hown : s.vm.findClass own = some m.cls) (hcls : Bundle.fit cls = true) (hnames : ∀ n ∈ names, Bundle.fit n = true)
    (hk : (Cond.classLink own ik cls).before args s = true) (hini : (Cond.initialized cls).before args s = true) (hstr : vk_R own is text sa s) (hat : ∀ w ∈ vx_atS own ic cls names, w.before args s = true)
    (hgood : ∀ w ∈ Cond.classLink own ik cls :: Cond.initialized cls :: vx_atS own ic cls names, vx_ot w = true)
    (hU : vx_Zq Bundle.tN "UNASSIGNED_STACK" Bundle.steD A s s.heap) (hN : vx_Zq Bundle.tN "SUPPRESSED_SENTINEL" Bundle.listD A s s.heap) (hS : va_S A s.heap H locs) (hsize : ls.size = c.maxLocals)
    (d0 : decode cc pc = .ok (.new ik, 3)) (d3 : decode cc (pc + 3) = .ok (.dup, 1)) (d4 : decode cc (pc + 4) = .ok (.ldc_w is, 3)) (d7 : decode cc (pc + 7) = .ok (.invokespecial ic, 3)) (d10 : decode cc (pc + 10) = .ok (.athrow, 1))
    (hout : ∀ x ∈ c.exceptionTable.toList, covers x (pc + 10) = false)
    (hRframes : names.length + 3 < R.frames) (hRlocals : (rest.map fun v => v.category).sum + (13 * (names.length + 1) + 43) ≤ R.locals) (hRcells : cells + 1 ≤ R.cells) (hRslots : slots + 6 ≤ R.slots) (hlocks : meth.locks = false)
    (hx : ∀ t : State, s.vm.Alike t.vm → H.size ≤ t.heap.size → (∀ q : Nat, q < H.size → t.heap[q]? = H[q]?) → XC cls s t)
    (hf : ∀ z ∈ locs, free z.base) (hc : cells + 1 ≤ mc) (hs : slots + 6 ≤ ms) :
    W p l e R s m args below meth c H locs cells slots (vx_MQ below Qc XC args s mc ms free) (F0 m pc ls rest) := by
  intro T hT X
  have htr : e.platform.stackTraces = false := (show e.platform.stackTraces = l.stackTraces by rw [X.admits.platform]).trans hl
  have Y := vx_rebase X (R' := { frames := R.frames, locals := R.locals, cells := 1, slots := 6 }) (Nat.le_refl _) (Nat.le_refl _) hRcells hRslots
  obtain ⟨s', hA⟩ : ∃ z, z = (T.setVm s.vm).setFrames (.invoking m args :: below) := ⟨_, rfl⟩
  rw [← hA] at Y
  have hvm : s'.vm = s.vm := by rw [hA]; rfl
  have hhp : s'.heap = H := by rw [hA]; exact hT
  have hW0 : s.WarmedH s'.vm := by rw [hvm]; exact State.WarmedH.refl s
  have hat' : ∀ w ∈ vx_atS own ic cls names, w.before args s' = true := fun w hw => vx_ot_at hW0 hvm.symm (hgood w (List.mem_cons_of_mem _ (List.mem_cons_of_mem _ hw))) (hat w hw)
  have hk' : (Cond.classLink own ik cls).before args s' = true := vx_ot_at hW0 hvm.symm (hgood _ List.mem_cons_self) hk
  have hini' : (Cond.initialized cls).before args s' = true := vx_ot_at hW0 hvm.symm (hgood _ (List.mem_cons_of_mem _ List.mem_cons_self)) hini
  have hU' : vx_Zq Bundle.tN "UNASSIGNED_STACK" Bundle.steD A s' s'.heap := by rw [hhp]; exact vx_Zq.moved hW0.alike (hU.kept hS.2.1)
  have hN' : vx_Zq Bundle.tN "SUPPRESSED_SENTINEL" Bundle.listD A s' s'.heap := by rw [hhp]; exact vx_Zq.moved hW0.alike (hN.kept hS.2.1)
  have h : ∀ w ∈ Bundle.ownAtoms own ic cls names, w.before args s' = true := vx_own hat' (vx_isRefq hU'.1) (vx_isRefq hN'.1) hU'.2.word hN'.2.word
  have hown' : s'.vm.findClass own = some m.cls := by rw [hvm]; exact hown
  have hins : (Cond.instantiable cls 6).before args s' = true := h _ (by simp [Bundle.ownAtoms])
  obtain ⟨vm₁, cX, kX, hfX, hkX, -, -, X₁, st1⟩ := Y.newCold hexec (own := own) (C := cls) (index := ik) (n := 6) hown' hk' hins hini'
    (g := F0 m pc ls rest) rfl (by rw [hb]; exact d0) (Nat.le_refl _) (Nat.le_refl _)
  generalize hT1 : (T.setVm vm₁).pushCell { cls := cX, slots := kX.instanceTypes.map defaultValue, vm := .none } = T1 at X₁ st1
  have hcat : (Value.ref T.heap.size).category = 1 := rfl
  have hcellA : T1.heap[T.heap.size]? = some (freshCell cX kX) := by rw [← hT1]; exact State.heap_pushCell_size _ _
  have d3' : decode c.code (pc + 3) = .ok (.dup, 1) := by rw [hb]; exact d3
  have d4' : decode c.code (pc + 4) = .ok (.ldc_w is, 3) := by rw [hb]; exact d4
  have hstr' : vk_R own is text sa s' := vk_R.warm hW0 hstr
  obtain ⟨U, hsteps, hrun, hend, hW, hsame, ce, hce, hO⟩ := X₁.ctorThrowS hexec htr (own := own) (cls := cls) (names := names) (ic := ic) hown' hcls hnames h (fun x hx => nomatch hx) hfX hkX hcellA (by rw [hhp, hT]; exact Nat.le_refl _) (msg := .ref sa) rfl
    (g := { method := m, pc := pc + 7, locals := ls, stack := .ref sa :: .ref T.heap.size :: .ref T.heap.size :: rest, locked := none }) rfl hsize rfl rfl (rest := rest) rfl
    (by rw [hb]; exact d7) (by rw [hb]; exact d10) hout hRframes (by simp only [List.map_cons, List.sum_cons, hcat]; omega) hlocks
  obtain ⟨f1, f2⟩ := vx_frame hsame
  rw [hhp] at f1 f2
  have hWs : s.WarmedH U.vm := State.WarmedH.trans hW0 hW
  have hcl : s.vm.findClass cls = some ce.cls := by
    have h9 := hO.cls
    rw [hvm] at h9
    exact h9
  have hall : s.sameButNew ({ U with vm := s.vm } : State) locs mc ms := by
    subst hA
    obtain ⟨e1, e2⟩ := hsame
    rw [State.setFrames_setFrames] at e1
    have h2 : (T.setVm s.vm).sameButNew ({ U with vm := s.vm } : State) [] (0 + 1) (0 + 6) := ⟨e1, e2⟩
    have h3 := X.same.trans h2
    rw [List.append_nil] at h3
    exact h3.mono hc hs
  refine ⟨U, ?_, .threw T.heap.size, hrun, hend, Or.inr ⟨T.heap.size, rfl, cls, ce, locs, hx U hWs.alike f1 (fun q hq => f2 q hq (fun z hz => nomatch hz)), hce, hO.vm, hcl, hWs, hall, hf⟩⟩
  refine st1 _ ?_
  show Steps p.tables e below (T1.setTop { method := m, pc := pc + 3, locals := ls, stack := .ref T.heap.size :: rest, locked := none }) _
  jvm_step X₁.here [X₁.here.top, hexec, d3', Value.category]
  exact X₁.ldcStringW hexec (own := own) (text := text) (index := is) (a := sa) hown' hstr'.1 hstr'.2
    (g := { method := m, pc := pc + 4, locals := ls, stack := .ref T.heap.size :: .ref T.heap.size :: rest, locked := none }) rfl d4' _ hsteps
end Ends
section Bodies
variable {l : Launch}
theorem vx_ofW {y : MethodName} {ws ws' : List Cond} {rm : Room} {Pc : Array Value → State → Prop} {Qc : Array Value → State → Outcome → State → Prop} {XC : String → State → State → Prop} {mc ms : Nat} {free : Addr → Prop} {cc : ByteArray} {maxL : Nat} {ret : Option FieldType}
    (hy : plainName y.cls = true) (hw : ws = Cond.code y cc maxL ret :: ws')
    (body : ∀ p e s m args below meth c s₁, BodyLoose p l y (headSpec ws rm) cc maxL ret e s m args below meth c s₁ → c.maxLocals = maxL → (∀ x ∈ c.exceptionTable.toList, False) → Pc args s →
      W p l e (headSpec ws rm).room s m args below meth c s.heap [] 0 0 (vx_MQ below Qc XC args s mc ms free) (entryFrame m args maxL)) : vx_Met l y ws rm Pc Qc XC mc ms free := by
  refine MetFree.of_bodyS (code := cc) (maxLocals := maxL) (ret := ret) hy ?_ ?_
  · intro args s m h hn
    obtain ⟨meth, c, h1, h2, h3, h4, h5, h6, -, -⟩ := Cond.code_spec hn (atoms_spec (ws := ws) h _ (by rw [hw]; exact List.mem_cons_self))
    exact ⟨meth, c, h1, h2, h3, h4, h5, h6⟩
  · intro p e s m args below meth c s₁ B hml hP _
    have hh0 : s₁.heap = s.heap := by rw [B.state]; rfl
    have ht : ∀ x ∈ c.exceptionTable.toList, False := by
      obtain ⟨meth9, c9, h1, h2, -, -, -, -, h7, -⟩ := Cond.code_spec B.named (atoms_spec (ws := ws) B.pre _ (by rw [hw]; exact List.mem_cons_self))
      cases Option.some.inj (h1.symm.trans B.method)
      cases Option.some.inj (h2.symm.trans (Stand.of_body B).code)
      intro x hx
      rw [Array.isEmpty_iff.mp h7] at hx
      cases hx
    obtain ⟨t, a1, o, b1, b2, b3⟩ := body p e s m args below meth c s₁ B hml ht hP s₁ hh0 (Stand.of_body B)
    exact ⟨t, o, a1, b1, b2, b3⟩
/-- the table of a body with handlers -/
theorem vx_table {p : Program} {x y : MethodName} {S : Spec} {cc bytes : ByteArray} {maxL maxL' : Nat} {ret ret' : Option FieldType} {e : Env} {s s₁ : State} {m : MethodId} {args : Array Value} {below : List Frame} {meth : Method} {c : Code} {hh : List (Nat × Nat × Nat × Nat)}
    (B : BodyLoose p l y S cc maxL ret e s m args below meth c s₁) (h : (Cond.codeWith y bytes maxL' ret' hh).before args s = true) : c.exceptionTable.toList = tableOf hh := by
  obtain ⟨m9, meth9, c9, hn9, h1, h2, -, -, h6, -⟩ := Cond.codeWith_spec h
  cases Option.some.inj (hn9.symm.trans B.named)
  cases Option.some.inj (h1.symm.trans B.method)
  cases Option.some.inj (h2.symm.trans (Stand.of_body B).code)
  rw [← h6, table_eq]
end Bodies
end VXA
/-! ===== END ===== -/
/-! ===== BEGIN a static call of a method with an exception table ===== -/
section VXS
variable {p : Program} {l : Launch} {e : Env} {R : Room} {s : State} {m : MethodId} {args : Array Value} {below : List Frame} {meth : Method} {c : Code} {T : State} {H : Heap} {locs : List Loc} {cells slots : Nat}
abbrev vx_CSW (R : Room) (s : State) (args : Array Value) (own : String) (index : Nat) (y : MethodName) (bytes : ByteArray) (maxL : Nat) (ret : Option FieldType) (hh : List (Nat × Nat × Nat × Nat)) (ws : List Cond) (rm : Room) (mc ms n : Nat) : Prop :=
  (rm.cells = mc ∧ rm.slots = ms ∧ rm.frames + 1 ≤ R.frames ∧ 8 + (maxL + 11) + rm.locals ≤ R.locals ∧ (∀ w ∈ ws, ∀ (a' : Array Value) (U : State), s.WarmedH U.vm → w.before a' U = true) ∧ Cond.codeWith y bytes maxL ret hh ∈ ws) ∧
  (Cond.codeWith y bytes maxL ret hh).before args s = true ∧ (Cond.initialized y.cls).before args s = true ∧ (y.cls ≠ "java/lang/invoke/MethodHandle" ∧ y.cls ≠ "java/lang/invoke/VarHandle") ∧
  (∀ sig, parseMethodDescriptor y.desc = some sig → n = sig.parameters.length) ∧ (Cond.methodLink own index y).before args s = true ∧ (Cond.static y).before args s = true
theorem vx_cwSW {own : String} {index maxL mc ms : Nat} {y : MethodName} {bytes : ByteArray} {ret : Option FieldType} {hh : List (Nat × Nat × Nat × Nat)} {Ts ws ws' : List Cond} {rm : Room} (n : Nat) (ht : ∀ w ∈ Ts, w.before args s = true) (hT : GoodIn Ts (va_wsS own index y ws)) (hw : ws = Cond.codeWith y bytes maxL ret hh :: ws') (hrc : rm.cells = mc) (hrs : rm.slots = ms)
    (hd : y.cls ≠ "java/lang/invoke/MethodHandle" ∧ y.cls ≠ "java/lang/invoke/VarHandle" ∧ (parseMethodDescriptor y.desc).map (fun d => d.parameters.length) = some n) (hR : rm.frames + 1 ≤ R.frames ∧ 8 + (maxL + 11) + rm.locals ≤ R.locals) :
    vx_CSW R s args own index y bytes maxL ret hh ws rm mc ms n := by
  have ok : ∀ w ∈ va_wsS own index y ws, w.before args s = true := fun w h => ht w (hT w h).1
  have hG : GoodIn Ts ws := fun w h => hT w (by unfold va_wsS; exact List.mem_append_right _ h)
  have hc : Cond.codeWith y bytes maxL ret hh ∈ ws := by rw [hw]; exact List.mem_cons_self
  refine ⟨⟨hrc, hrs, hR.1, hR.2, pay_in ht hG, hc⟩, ht _ (hG _ hc).1, ok _ (by simp [va_wsS]), ⟨hd.1, hd.2.1⟩, fun sig h => ?_, ok _ (by simp [va_wsS]), ok _ (by simp [va_wsS])⟩
  have h2 := hd.2.2
  rw [h] at h2
  exact (Option.some.inj h2).symm
theorem vx_callSW (X : Stand p l e R s m args below meth c T locs cells slots) (hexec : p.tables.exec = Jvm.exec) {own : String} {index : Nat} {y : MethodName} {bytes : ByteArray} {maxL : Nat} {ret : Option FieldType} {hh : List (Nat × Nat × Nat × Nat)}
    (hown : s.vm.findClass own = some m.cls) (hlink : (Cond.methodLink own index y).before args s = true) (hstat : (Cond.static y).before args s = true) (hinit : (Cond.initialized y.cls).before args s = true)
    (hcode : (Cond.codeWith y bytes maxL ret hh).before args s = true) (hy : y.cls ≠ "java/lang/invoke/MethodHandle" ∧ y.cls ≠ "java/lang/invoke/VarHandle")
    {W9 : Nat} {Pre : Pt → Array Value → Prop} {Post : Pt → Array Value → Option Value → Pt → Prop} (hK : Back l R p e below s args y 3 W9 Pre Post)
    {g : JFrame} (hg : g.method = m) (hsize : g.locals.size = c.maxLocals) {argsL rest : List Value} (hlen : ∀ sig, parseMethodDescriptor y.desc = some sig → argsL.length = sig.parameters.length)
    (hstack : g.stack = argsL.reverse ++ rest) (hW : 2 * g.monitorRoom + (rest.map fun v => v.category).sum ≤ W9) (hdg : decode c.code g.pc = .ok (.invokestatic index, 3))
    (hpre : ∀ vm₁, s.WarmedH vm₁ → Pre ⟨T.setVm vm₁, locs, cells, slots⟩ argsL.toArray) :
    ∃ (v : Option Value) (vm₁ : Vm) (B : Pt), s.WarmedH vm₁ ∧ Stand p l e R s m args below meth c B.U B.locs B.cells B.slots ∧ Post ⟨T.setVm vm₁, locs, cells, slots⟩ argsL.toArray v B ∧
      ∀ target, Steps p.tables e below (B.U.setTop { g with pc := g.pc + 3, stack := v.toList ++ rest }) target → Steps p.tables e below (T.setTop g) target := by
  obtain ⟨mk, methM, cM, hnamed, hmethM, -, -, -, -, -, -, hsigM⟩ := Cond.codeWith_spec hcode
  have hstatic : methM.isStatic = true := Cond.static_spec hnamed hmethM hstat
  obtain ⟨kP, hkP, -⟩ := className_of_methodNamed hnamed
  have hinitP : kP.init = .initialized := Cond.initialized_spec (findClass_of_methodNamed hnamed) hkP hinit
  obtain ⟨vm₁, X₁, hstep₁⟩ := X.invokestatic hexec hown hlink hnamed hmethM hstatic hkP hinitP hy (g := g) hg (argsL := argsL) (rest := rest) (hlen _ hsigM) hstack hdg
  obtain ⟨v, B, X', hpost, hsteps⟩ := hK m meth c ⟨T.setVm vm₁, locs, cells, slots⟩ { g with stack := rest } (.invokestatic index) mk argsL.toArray X₁ hg hsize hdg hW (X₁.named hnamed) (hpre vm₁ X₁.warmed)
  exact ⟨v, vm₁, B, X₁.warmed, X', hpost, fun target h => hstep₁ _ fun acts => by rw [doInvoke_state]; exact hsteps.trans h⟩
theorem vx_runSW {y : MethodName} {bytes cc : ByteArray} {maxL nL mc ms n index : Nat} {ret : Option FieldType} {hh : List (Nat × Nat × Nat × Nat)} {ws : List Cond} {rm : Room} {Pc : Array Value → State → Prop} {Qc : Array Value → State → Outcome → State → Prop} {free : Addr → Prop} {Ts : List Cond} {own : String} {As rest : List Value} {g : JFrame}
    (S : CallFix p m c cc nL s args Ts own) (hM : Met l y ws rm Pc Qc mc ms free) (cw : vx_CSW R s args own index y bytes maxL ret hh ws rm mc ms n) (hp : PreS s H Pc As)
    (hg : g.method = m) (hn : As.length = n) (hsize : g.locals.size = nL) (hstack : g.stack = As.reverse ++ rest) (hW : 2 * g.monitorRoom + (rest.map fun v => v.category).sum ≤ 8) (hdg : decode cc g.pc = .ok (.invokestatic index, 3)) (hf : cells + mc ≤ R.cells ∧ slots + ms ≤ R.slots) :
    va_Run p l e R s m args below meth c H locs cells slots mc ms g rest (Qc As.toArray) (free) := by
  obtain ⟨⟨hrc, hrs, hfr, hlo, hws, hcw⟩, hcode, hini, hy, hlen, hl, hstt⟩ := cw
  have hK : Back l R p e below s args y 3 8 (PreOf R mc ms Pc) (PostOf Qc mc ms free) := va_backW (hh := hh) (bytes := bytes) (maxL := maxL) (ret := ret) hM hp.1 hrc hrs hfr hlo hws hcw (fun a' U hW => word_at hW (Or.inl (by first | rfl | simp [Cond.onTables, Cond.keeps, Cond.steady])) hini)
  obtain ⟨hx, hb, hml, ho, -⟩ := S
  intro T hT X
  obtain ⟨v, vm₁, ⟨U', l2, c2, s2⟩, hW₁, X', ⟨g', mk, t, L, e1, e2, hq, h1, hL, h2, h3⟩, st⟩ := vx_callSW X hx (hh := hh) (bytes := bytes) (maxL := maxL) (ret := ret) ho hl hstt hini hcode hy hK hg (hsize.trans hml.symm) (argsL := As) (rest := rest) (fun sig h => hn.trans (hlen sig h)) hstack hW (by rw [hb]; exact hdg)
    (fun vm₁ hW₁ => ⟨hf.1, hf.2, hp.2 (T.setVm vm₁) hT hW₁⟩)
  dsimp only [Pt.U, Pt.locs, Pt.cells, Pt.slots] at X' e1 e2 h1 h2 h3 st
  subst h1; subst h2; subst h3
  exact ⟨v, (T.setVm vm₁).calling g' mk As.toArray, t, U', L, hT, X', hL, e1, e2, hq, st⟩
/-- not caught here, past rows that name other classes: it goes on to the caller -/
theorem vx_outP {p : Program} {l : Launch} {e : Env} {R : Room} {s : State} {m : MethodId} {args : Array Value} {below : List Frame} {meth : Method} {c : Code} {H : Heap} {locs : List Loc} {cells slots : Nat} {free : Addr → Prop} {ls : Array Slot} {rest : List Value} {Qc : Array Value → State → Outcome → State → Prop} {XC : String → State → State → Prop}
    {pc : Nat} {own E : String} {ce : Cell} {q : Addr} {mc ms : Nat} (hown : s.vm.findClass own = some m.cls) (hlocks : meth.locks = false)
    (hpass : ∀ z ∈ c.exceptionTable.toList, covers z pc = false ∨ (z.catchType ≠ 0 ∧ ∃ nm : String, (Cond.classLink own z.catchType nm).before args s = true ∧ va_Nc E nm s)) (hcell : H[q]? = some ce) (hv : ce.vm = .none) (hcl : s.vm.findClass E = some ce.cls)
    (hx : ∀ t : State, t.heap = H → s.vm.Alike t.vm → XC E s t) (hf : ∀ z ∈ locs, free z.base) (hc : cells ≤ mc) (hs : slots ≤ ms) :
    vx_W p l e R s m args below meth c H locs cells slots (vx_MQ below Qc XC args s mc ms free) (F0 m pc ls rest) q := by
  intro T hT X
  have hpl : e.platform.magicAccessors = ({} : Platform).magicAccessors := by rw [X.admits.platform]
  obtain ⟨vm', hW', X', st⟩ := X.outThrough hlocks q (g := F0 m pc ls rest) rfl rfl rfl (cell := ce) (by rw [hT]; exact hcell) (by rw [hv]; rfl)
    (by obtain ⟨k9, h9, -⟩ := Vm.findClass_spec hcl; exact ⟨k9, h9⟩) (fun z hz => by
      rcases hpass z hz with h | ⟨hz0, nm, hl1, hn1⟩
      · exact Or.inl h
      · obtain ⟨c6, hc6, hcl6⟩ := Cond.classLink_spec hown hl1 e.platform hpl
        obtain ⟨a8, b8, h1, h2, h3⟩ := hn1
        cases Option.some.inj (h1.symm.trans hcl)
        cases Option.some.inj (h2.symm.trans hc6)
        exact Or.inr ⟨hz0, _, hcl6, h3⟩)
  obtain ⟨g₀, hfr⟩ := X'.frames_eq
  have hcell9 : ((T.setVm vm').setFrames (.throwing q :: below)).heap[q]? = some ce := by
    show T.heap[q]? = some ce
    rw [hT]; exact hcell
  have hend : Ended ((T.setVm vm').setFrames (.throwing q :: below)) below (.threw q) := State.frames_setFrames _ (State.cur_lt_of_frames hfr)
  refine ⟨(T.setVm vm').setFrames (.throwing q :: below), ?_, .threw q, X'.here.running, hend, Or.inr ⟨q, rfl, E, ce, locs, hx _ hT (X'.ends _).1.alike, hcell9, hv, hcl, (X'.ends _).1, (X'.ends _).2.mono hc hs, hf⟩⟩
  rw [X.pushThrowing_eq]
  exact st
/-- a thing of a world lies in the heap -/
theorem vx_lt {D : va_G} {cl : List vw_C} {ws : va_W} {H1 : Heap} (h : va_P D cl ws H1) {k : Nat} {q : Nat × va_E} (hk : ws[k]? = some q) : q.1 < H1.size := (h k q hk).lt
end VXS
/-! ===== END ===== -/
/-! ===== BEGIN methods with a table of their own: called by a name, returning or throwing ===== -/
section VXH
/-! vx_backW, vx_callVX, vx_callSX, vx_callVW, vx_runVW, vx_runVX, vx_runSX, vx_ofWH follow the same proofs as their sisters above (Free/Laws.lean, Shelf42/LK1.lean); vx_outP calls Shelf42/NT130.lean (outThrough). -/
section
variable {l : Launch} {R : Room} {p : Program} {e : Env} {below : List Frame} {s : State} {sargs : Array Value} {y : MethodName} {len W9 : Nat}
theorem vx_backW {ws : List Cond} {rm : Room} {Pc : Array Value → State → Prop} {Qc : Array Value → State → Outcome → State → Prop} {XC : String → State → State → Prop} {mc ms : Nat} {free : Addr → Prop} {bytes : ByteArray} {maxL : Nat} {ret : Option FieldType} {hh : List (Nat × Nat × Nat × Nat)}
    (hM : vx_Met l y ws rm Pc Qc XC mc ms free) (hblind : FrameBlind Pc) (hrc : rm.cells = mc) (hrs : rm.slots = ms)
    (hframes : rm.frames + 1 ≤ R.frames) (hlocals : W9 + (maxL + 11) + rm.locals ≤ R.locals)
    (hws : ∀ w ∈ ws, ∀ a' U, s.WarmedH U.vm → w.before a' U = true) (hcode : Cond.codeWith y bytes maxL ret hh ∈ ws) (hinit : ∀ a' U, s.WarmedH U.vm → (Cond.initialized y.cls).before a' U = true) :
    vx_Back l R p e below s sargs y len W9 (PreOf R mc ms Pc) (PostOf Qc mc ms free) (vx_Post XC mc ms free) := by
  intro m meth c A g ig mk a X hg hsize hdg hW hn hp
  have h1 : (headSpec ws rm).pre.before a A.U = true := atoms_intro fun w hw => hws w hw _ _ X.warmed
  have h2 : (Cond.codeWith y bytes maxL ret hh).before a A.U = true := hws _ hcode _ _ X.warmed
  have h3 : (Cond.initialized y.cls).before a A.U = true := hinit _ _ X.warmed
  have h4 : A.cells + (headSpec ws rm).room.cells ≤ R.cells := by rw [show (headSpec ws rm).room.cells = mc from hrc]; exact hp.1
  have h5 : A.slots + (headSpec ws rm).room.slots ≤ R.slots := by rw [show (headSpec ws rm).room.slots = ms from hrs]; exact hp.2.1
  have hPc : Pc a (A.U.calling g mk a) := hblind _ _ _ _ hp.2.2
  obtain ⟨U, Ls, c0, s0⟩ := A
  dsimp only [Pt.U, Pt.locs, Pt.cells, Pt.slots] at h1 h2 h3 h4 h5 X hn hPc ⊢
  obtain ⟨m9, methY, cY, hn9, hmY, hcY, -, hlY, -⟩ := Cond.codeWith_spec h2
  cases Option.some.inj (hn9.symm.trans hn)
  obtain ⟨kY, hkY, -⟩ := className_of_methodNamed hn
  have hinitY : kY.init = .initialized := Cond.initialized_spec (findClass_of_methodNamed hn) hkY h3
  have h : At U g.method c below := by rw [hg]; exact X.here
  have hlocals9 : W9 + (maxL + 11) + (headSpec ws rm).room.locals ≤ R.locals := hlocals
  have happ : (headSpec ws rm).appliesLoose y e.platform (U.calling g mk a) = true :=
    Spec.appliesLoose_calling (g := g) h hdg hn hkY hinitY
      (X.room_calling (g := g) (R' := (headSpec ws rm).room) hsize hmY hcY hframes (by rw [hlY]; omega) h4 h5) h1
  obtain ⟨mid, hmid⟩ := h.above
  have hfr : (U.setTop g).frames = (.java g :: mid) ++ below := by rw [State.frames_setTop' g h.top, hmid]; rfl
  obtain ⟨o, s₂, hsteps, -, hend, hq⟩ := Steps.callFree hM p X.admits X.cas X.clock (acts := []) hfr happ hPc trivial
  have hq' : vx_Q Qc XC mc ms free a (U.calling g mk a) o s₂ := hq
  rw [State.frames_setTop' g h.top] at hend
  obtain ⟨g₀, hg0⟩ := Option.isSome_iff_exists.mp h.top
  obtain ⟨r, hr⟩ := State.topJava?_eq_some.mp hg0
  have hr' : (({ U with heap := s₂.heap, slotsUsed := s₂.slotsUsed } : State).setVm s₂.vm).frames = .java g₀ :: r := hr
  rcases hq' with ⟨hqc, L, hfe, hL⟩ | ⟨q, rfl, E, ce, L, hx, hce, hcv, hcl, hW₂, hsm, hL⟩
  · obtain ⟨⟨v, rfl⟩, hW₂, e2, q2, q3, q4, q5, q6⟩ := id hfe
    have e3 : s₂ = ({ (U.calling g mk a).setFrames s₂.frames with heap := s₂.heap, slotsUsed := s₂.slotsUsed } : State).setVm s₂.vm := by
      have : s₂ = ({ s₂ with vm := (U.calling g mk a).vm } : State).setVm s₂.vm := rfl
      rw [e2] at this
      exact this
    obtain ⟨c₂, i₂, len₂, hc₂, hd₂, hf₂⟩ := hend
    have hW' : U.WarmedH s₂.vm := hW₂
    have hcc : c₂ = c := by
      have h1 : s₂.code? g.method = U.code? g.method := by
        rw [State.code?_eq, State.code?_eq, hW'.alike.method?]
      exact Option.some.inj (hc₂.symm.trans (h1.trans h.code))
    subst hcc
    have hlen : len₂ = len := by rw [hdg] at hd₂; cases hd₂; rfl
    subst hlen
    have hs₂ : s₂ = (({ U with heap := s₂.heap, slotsUsed := s₂.slotsUsed } : State).setVm s₂.vm).setTop { g with pc := g.pc + len₂, stack := v.toList ++ g.stack } := by
      refine e3.trans ?_
      rw [hf₂, State.calling_eq h.top, State.setFrames_setFrames, State.setTop_of_frames _ hr', hr]
      rfl
    have hsame : U.sameButNew ({ U with heap := s₂.heap, slotsUsed := s₂.slotsUsed } : State) L mc ms := by
      refine ⟨?_, q2, q3, q4, q5, q6⟩
      obtain ⟨t, ht, -⟩ := State.frames_cons hr
      show ({ U with heap := s₂.heap, slotsUsed := s₂.slotsUsed } : State) = { U.setFrames U.frames with heap := s₂.heap, slotsUsed := s₂.slotsUsed }
      rw [State.setFrames_self ht]
    subst hg
    refine Or.inl ⟨v, ⟨(({ U with heap := s₂.heap, slotsUsed := s₂.slotsUsed } : State).setVm s₂.vm), Ls ++ L, c0 + mc, s0 + ms⟩,
      ⟨X.admits, X.cas, X.clock, X.frames, X.room, X.hears, X.method, X.code, (X.here.setHeapUsed s₂.heap s₂.slotsUsed).setVm hW'.alike, X.tail, State.WarmedH.trans X.warmed hW', X.limits, X.bytes, X.same.trans (hsame.setVm s.vm)⟩,
      ⟨g, mk, s₂, L, rfl, rfl, hqc, rfl, hL, rfl, rfl⟩, ?_⟩
    show Steps p.tables e below _ ((({ U with heap := s₂.heap, slotsUsed := s₂.slotsUsed } : State).setVm s₂.vm).setTop { g with pc := g.pc + len₂, stack := v.toList ++ g.stack })
    rw [← hs₂]
    exact hsteps
  · obtain ⟨e2, q2, q3, q4, q5, q6⟩ := id hsm
    have e3 : s₂ = ({ (U.calling g mk a).setFrames s₂.frames with heap := s₂.heap, slotsUsed := s₂.slotsUsed } : State).setVm s₂.vm := by
      have : s₂ = ({ s₂ with vm := (U.calling g mk a).vm } : State).setVm s₂.vm := rfl
      rw [e2] at this
      exact this
    have hf₂ : s₂.frames = .throwing q :: .java g :: U.frames.tail := hend
    have hW' : U.WarmedH s₂.vm := hW₂
    have hs₂ : s₂ = ((({ U with heap := s₂.heap, slotsUsed := s₂.slotsUsed } : State).setVm s₂.vm).setTop g).pushFrame (.throwing q) := by
      refine e3.trans ?_
      rw [hf₂, State.calling_eq h.top, State.setFrames_setFrames, State.pushFrame, State.frames_setTop _ hr', State.setTop_of_frames _ hr', State.setFrames_setFrames, hr]
      rfl
    have hsame : U.sameButNew ({ U with heap := s₂.heap, slotsUsed := s₂.slotsUsed } : State) L mc ms := by
      refine ⟨?_, q2, q3, q4, q5, q6⟩
      obtain ⟨t, ht, -⟩ := State.frames_cons hr
      show ({ U with heap := s₂.heap, slotsUsed := s₂.slotsUsed } : State) = { U.setFrames U.frames with heap := s₂.heap, slotsUsed := s₂.slotsUsed }
      rw [State.setFrames_self ht]
    subst hg
    refine Or.inr ⟨q, ⟨(({ U with heap := s₂.heap, slotsUsed := s₂.slotsUsed } : State).setVm s₂.vm), Ls ++ L, c0 + mc, s0 + ms⟩,
      ⟨X.admits, X.cas, X.clock, X.frames, X.room, X.hears, X.method, X.code, (X.here.setHeapUsed s₂.heap s₂.slotsUsed).setVm hW'.alike, X.tail, State.WarmedH.trans X.warmed hW', X.limits, X.bytes, X.same.trans (hsame.setVm s.vm)⟩,
      ⟨g, mk, s₂, L, E, ce, rfl, rfl, hx, hce, hcv, hcl, rfl, hL, rfl, rfl⟩, ?_⟩
    show Steps p.tables e below _ (((({ U with heap := s₂.heap, slotsUsed := s₂.slotsUsed } : State).setVm s₂.vm).setTop g).pushFrame (.throwing q))
    rw [← hs₂]
    exact hsteps
end
variable {p : Program} {l : Launch} {e : Env} {R : Room} {s : State} {m : MethodId} {args : Array Value} {below : List Frame} {meth : Method} {c : Code} {T : State} {H : Heap} {locs : List Loc} {cells slots : Nat}
theorem vx_callVX (X : Stand p l e R s m args below meth c T locs cells slots) (hexec : p.tables.exec = Jvm.exec) {own C : String} {index : Nat} {y : MethodName} {bytes : ByteArray} {maxL : Nat} {ret : Option FieldType} {hh : List (Nat × Nat × Nat × Nat)}
    (hown : s.vm.findClass own = some m.cls) (hlink : (Cond.methodLink own index y).before args s = true) (hinst : (Cond.instanceMethod y).before args s = true) (hsel : (Cond.selects C y y).before args s = true)
    (hcode : (Cond.codeWith y bytes maxL ret hh).before args s = true) (hy : y.cls ≠ "java/lang/invoke/MethodHandle" ∧ y.cls ≠ "java/lang/invoke/VarHandle")
    {W9 : Nat} {Pre : Pt → Array Value → Prop} {Post : Pt → Array Value → Option Value → Pt → Prop} {PostX : Pt → Array Value → Addr → Pt → Prop} (hK : vx_Back l R p e below s args y 3 W9 Pre Post PostX)
    {b : Addr} {cellB : Cell} (hcell : T.heap[b]? = some cellB) (hobj : cellB.vm.isStatics = false) (hcls : s.vm.findClass C = some cellB.cls)
    {g : JFrame} (hg : g.method = m) (hsize : g.locals.size = c.maxLocals) {argsL rest : List Value} (hlen : ∀ sig, parseMethodDescriptor y.desc = some sig → argsL.length = sig.parameters.length)
    (hstack : g.stack = argsL.reverse ++ .ref b :: rest) (hW : 2 * g.monitorRoom + (rest.map fun v => v.category).sum ≤ W9) (hdg : decode c.code g.pc = .ok (.invokevirtual index, 3))
    (hpre : ∀ vm₁, s.WarmedH vm₁ → Pre ⟨T.setVm vm₁, locs, cells, slots⟩ (Value.ref b :: argsL).toArray) :
    (∃ (v : Option Value) (vm₁ : Vm) (B : Pt), s.WarmedH vm₁ ∧ Stand p l e R s m args below meth c B.U B.locs B.cells B.slots ∧ Post ⟨T.setVm vm₁, locs, cells, slots⟩ (Value.ref b :: argsL).toArray v B ∧
      ∀ target, Steps p.tables e below (B.U.setTop { g with pc := g.pc + 3, stack := v.toList ++ rest }) target → Steps p.tables e below (T.setTop g) target) ∨
    (∃ (q : Addr) (vm₁ : Vm) (B : Pt), s.WarmedH vm₁ ∧ Stand p l e R s m args below meth c B.U B.locs B.cells B.slots ∧ PostX ⟨T.setVm vm₁, locs, cells, slots⟩ (Value.ref b :: argsL).toArray q B ∧
      Steps p.tables e below (T.setTop g) ((B.U.setTop { g with stack := rest }).pushFrame (.throwing q))) := by
  obtain ⟨mk, methM, hnamed, hmethM, hstM, habM⟩ := Cond.instanceMethod_spec hinst
  obtain ⟨m8, methM', cM, hn8, hmethM', -, -, -, -, -, -, hsigM⟩ := Cond.codeWith_spec hcode
  cases Option.some.inj (hn8.symm.trans hnamed)
  cases hmethM.symm.trans hmethM'
  obtain ⟨c2, r2, m2, q1, q2, q3, q4, kP, hkP, hkPi⟩ := Cond.selects_spec hsel
  cases hcls.symm.trans q1
  cases (State.methodFound?_of_named hnamed hy).symm.trans q2
  cases hnamed.symm.trans q3
  have hselP : selectMethod e.platform s.vm cellB.cls mk = .method mk := by rw [Launch.admits_selectMethod X.admits]; exact q4
  obtain ⟨vm₁, X₁, hstep₁⟩ := X.invokevirtual hexec hown hlink hnamed hmethM hstM hkP hkPi hy (a := b) (cell := cellB) hcell
    (fun z h => by rw [h] at hobj; cases hobj) hselP hmethM habM hkP hkPi (g := g) hg (argsL := argsL) (rest := rest) (hlen _ hsigM) hstack hdg
  rcases hK m meth c ⟨T.setVm vm₁, locs, cells, slots⟩ { g with stack := rest } (.invokevirtual index) mk (Value.ref b :: argsL).toArray X₁ hg hsize hdg hW (X₁.named hnamed) (hpre vm₁ X₁.warmed) with ⟨v, B, X', hpost, hsteps⟩ | ⟨q, B, X', hpost, hsteps⟩
  · exact Or.inl ⟨v, vm₁, B, X₁.warmed, X', hpost, fun target h => hstep₁ _ fun acts => by rw [doInvoke_state]; exact hsteps.trans h⟩
  · exact Or.inr ⟨q, vm₁, B, X₁.warmed, X', hpost, hstep₁ _ fun acts => by rw [doInvoke_state]; exact hsteps⟩
theorem vx_callSX (X : Stand p l e R s m args below meth c T locs cells slots) (hexec : p.tables.exec = Jvm.exec) {own : String} {index : Nat} {y : MethodName} {bytes : ByteArray} {maxL : Nat} {ret : Option FieldType} {hh : List (Nat × Nat × Nat × Nat)}
    (hown : s.vm.findClass own = some m.cls) (hlink : (Cond.methodLink own index y).before args s = true) (hstat : (Cond.static y).before args s = true) (hinit : (Cond.initialized y.cls).before args s = true)
    (hcode : (Cond.codeWith y bytes maxL ret hh).before args s = true) (hy : y.cls ≠ "java/lang/invoke/MethodHandle" ∧ y.cls ≠ "java/lang/invoke/VarHandle")
    {W9 : Nat} {Pre : Pt → Array Value → Prop} {Post : Pt → Array Value → Option Value → Pt → Prop} {PostX : Pt → Array Value → Addr → Pt → Prop} (hK : vx_Back l R p e below s args y 3 W9 Pre Post PostX)
    {g : JFrame} (hg : g.method = m) (hsize : g.locals.size = c.maxLocals) {argsL rest : List Value} (hlen : ∀ sig, parseMethodDescriptor y.desc = some sig → argsL.length = sig.parameters.length)
    (hstack : g.stack = argsL.reverse ++ rest) (hW : 2 * g.monitorRoom + (rest.map fun v => v.category).sum ≤ W9) (hdg : decode c.code g.pc = .ok (.invokestatic index, 3))
    (hpre : ∀ vm₁, s.WarmedH vm₁ → Pre ⟨T.setVm vm₁, locs, cells, slots⟩ argsL.toArray) :
    (∃ (v : Option Value) (vm₁ : Vm) (B : Pt), s.WarmedH vm₁ ∧ Stand p l e R s m args below meth c B.U B.locs B.cells B.slots ∧ Post ⟨T.setVm vm₁, locs, cells, slots⟩ argsL.toArray v B ∧
      ∀ target, Steps p.tables e below (B.U.setTop { g with pc := g.pc + 3, stack := v.toList ++ rest }) target → Steps p.tables e below (T.setTop g) target) ∨
    (∃ (q : Addr) (vm₁ : Vm) (B : Pt), s.WarmedH vm₁ ∧ Stand p l e R s m args below meth c B.U B.locs B.cells B.slots ∧ PostX ⟨T.setVm vm₁, locs, cells, slots⟩ argsL.toArray q B ∧
      Steps p.tables e below (T.setTop g) ((B.U.setTop { g with stack := rest }).pushFrame (.throwing q))) := by
  obtain ⟨mk, methM, cM, hnamed, hmethM, -, -, -, -, -, -, hsigM⟩ := Cond.codeWith_spec hcode
  have hstatic : methM.isStatic = true := Cond.static_spec hnamed hmethM hstat
  obtain ⟨kP, hkP, -⟩ := className_of_methodNamed hnamed
  have hinitP : kP.init = .initialized := Cond.initialized_spec (findClass_of_methodNamed hnamed) hkP hinit
  obtain ⟨vm₁, X₁, hstep₁⟩ := X.invokestatic hexec hown hlink hnamed hmethM hstatic hkP hinitP hy (g := g) hg (argsL := argsL) (rest := rest) (hlen _ hsigM) hstack hdg
  rcases hK m meth c ⟨T.setVm vm₁, locs, cells, slots⟩ { g with stack := rest } (.invokestatic index) mk argsL.toArray X₁ hg hsize hdg hW (X₁.named hnamed) (hpre vm₁ X₁.warmed) with ⟨v, B, X', hpost, hsteps⟩ | ⟨q, B, X', hpost, hsteps⟩
  · exact Or.inl ⟨v, vm₁, B, X₁.warmed, X', hpost, fun target h => hstep₁ _ fun acts => by rw [doInvoke_state]; exact hsteps.trans h⟩
  · exact Or.inr ⟨q, vm₁, B, X₁.warmed, X', hpost, hstep₁ _ fun acts => by rw [doInvoke_state]; exact hsteps⟩
theorem vx_callVW (X : Stand p l e R s m args below meth c T locs cells slots) (hexec : p.tables.exec = Jvm.exec) {own C : String} {index : Nat} {y : MethodName} {bytes : ByteArray} {maxL : Nat} {ret : Option FieldType} {hh : List (Nat × Nat × Nat × Nat)}
    (hown : s.vm.findClass own = some m.cls) (hlink : (Cond.methodLink own index y).before args s = true) (hinst : (Cond.instanceMethod y).before args s = true) (hsel : (Cond.selects C y y).before args s = true)
    (hcode : (Cond.codeWith y bytes maxL ret hh).before args s = true) (hy : y.cls ≠ "java/lang/invoke/MethodHandle" ∧ y.cls ≠ "java/lang/invoke/VarHandle")
    {W9 : Nat} {Pre : Pt → Array Value → Prop} {Post : Pt → Array Value → Option Value → Pt → Prop} (hK : Back l R p e below s args y 3 W9 Pre Post)
    {b : Addr} {cellB : Cell} (hcell : T.heap[b]? = some cellB) (hobj : cellB.vm.isStatics = false) (hcls : s.vm.findClass C = some cellB.cls)
    {g : JFrame} (hg : g.method = m) (hsize : g.locals.size = c.maxLocals) {argsL rest : List Value} (hlen : ∀ sig, parseMethodDescriptor y.desc = some sig → argsL.length = sig.parameters.length)
    (hstack : g.stack = argsL.reverse ++ .ref b :: rest) (hW : 2 * g.monitorRoom + (rest.map fun v => v.category).sum ≤ W9) (hdg : decode c.code g.pc = .ok (.invokevirtual index, 3))
    (hpre : ∀ vm₁, s.WarmedH vm₁ → Pre ⟨T.setVm vm₁, locs, cells, slots⟩ (Value.ref b :: argsL).toArray) :
    ∃ (v : Option Value) (vm₁ : Vm) (B : Pt), s.WarmedH vm₁ ∧ Stand p l e R s m args below meth c B.U B.locs B.cells B.slots ∧ Post ⟨T.setVm vm₁, locs, cells, slots⟩ (Value.ref b :: argsL).toArray v B ∧
      ∀ target, Steps p.tables e below (B.U.setTop { g with pc := g.pc + 3, stack := v.toList ++ rest }) target → Steps p.tables e below (T.setTop g) target := by
  obtain ⟨mk, methM, hnamed, hmethM, hstM, habM⟩ := Cond.instanceMethod_spec hinst
  obtain ⟨m8, methM', cM, hn8, hmethM', -, -, -, -, -, -, hsigM⟩ := Cond.codeWith_spec hcode
  cases Option.some.inj (hn8.symm.trans hnamed)
  cases hmethM.symm.trans hmethM'
  obtain ⟨c2, r2, m2, q1, q2, q3, q4, kP, hkP, hkPi⟩ := Cond.selects_spec hsel
  cases hcls.symm.trans q1
  cases (State.methodFound?_of_named hnamed hy).symm.trans q2
  cases hnamed.symm.trans q3
  have hselP : selectMethod e.platform s.vm cellB.cls mk = .method mk := by rw [Launch.admits_selectMethod X.admits]; exact q4
  obtain ⟨vm₁, X₁, hstep₁⟩ := X.invokevirtual hexec hown hlink hnamed hmethM hstM hkP hkPi hy (a := b) (cell := cellB) hcell
    (fun z h => by rw [h] at hobj; cases hobj) hselP hmethM habM hkP hkPi (g := g) hg (argsL := argsL) (rest := rest) (hlen _ hsigM) hstack hdg
  obtain ⟨v, B, X', hpost, hsteps⟩ := hK m meth c ⟨T.setVm vm₁, locs, cells, slots⟩ { g with stack := rest } (.invokevirtual index) mk (Value.ref b :: argsL).toArray X₁ hg hsize hdg hW (X₁.named hnamed) (hpre vm₁ X₁.warmed)
  exact ⟨v, vm₁, B, X₁.warmed, X', hpost, fun target h => hstep₁ _ fun acts => by rw [doInvoke_state]; exact hsteps.trans h⟩
abbrev vx_CVW (R : Room) (s : State) (args : Array Value) (own C : String) (index : Nat) (y : MethodName) (bytes : ByteArray) (maxL : Nat) (ret : Option FieldType) (hh : List (Nat × Nat × Nat × Nat)) (ws : List Cond) (rm : Room) (mc ms n : Nat) : Prop :=
  (rm.cells = mc ∧ rm.slots = ms ∧ rm.frames + 1 ≤ R.frames ∧ 8 + (maxL + 11) + rm.locals ≤ R.locals ∧ (∀ w ∈ ws, ∀ (a' : Array Value) (U : State), s.WarmedH U.vm → w.before a' U = true) ∧ Cond.codeWith y bytes maxL ret hh ∈ ws) ∧
  (Cond.codeWith y bytes maxL ret hh).before args s = true ∧ (Cond.initialized y.cls).before args s = true ∧ (y.cls ≠ "java/lang/invoke/MethodHandle" ∧ y.cls ≠ "java/lang/invoke/VarHandle") ∧
  (∀ sig, parseMethodDescriptor y.desc = some sig → n = sig.parameters.length) ∧ (Cond.methodLink own index y).before args s = true ∧ (Cond.instanceMethod y).before args s = true ∧ (Cond.selects C y y).before args s = true
theorem vx_cwVW {own C : String} {index maxL mc ms : Nat} {y : MethodName} {bytes : ByteArray} {ret : Option FieldType} {hh : List (Nat × Nat × Nat × Nat)} {Ts ws ws' : List Cond} {rm : Room} (n : Nat) (ht : ∀ w ∈ Ts, w.before args s = true) (hT : GoodIn Ts (wsV own index C y ws)) (hw : ws = Cond.codeWith y bytes maxL ret hh :: ws') (hrc : rm.cells = mc) (hrs : rm.slots = ms)
    (hd : y.cls = C ∧ y.cls ≠ "java/lang/invoke/MethodHandle" ∧ y.cls ≠ "java/lang/invoke/VarHandle" ∧ (parseMethodDescriptor y.desc).map (fun d => d.parameters.length) = some n) (hR : rm.frames + 1 ≤ R.frames ∧ 8 + (maxL + 11) + rm.locals ≤ R.locals) :
    vx_CVW R s args own C index y bytes maxL ret hh ws rm mc ms n := by
  obtain ⟨hC, hd⟩ := hd
  subst hC
  have ok : ∀ w ∈ wsV own index y.cls y ws, w.before args s = true := fun w h => ht w (hT w h).1
  have hG : GoodIn Ts ws := fun w h => hT w (by unfold wsV; exact List.mem_append_right _ h)
  have hc : Cond.codeWith y bytes maxL ret hh ∈ ws := by rw [hw]; exact List.mem_cons_self
  refine ⟨⟨hrc, hrs, hR.1, hR.2, pay_in ht hG, hc⟩, ht _ (hG _ hc).1, ok _ (by simp [wsV]), ⟨hd.1, hd.2.1⟩, fun sig h => ?_, ok _ (by simp [wsV]), ok _ (by simp [wsV]), ok _ (by simp [wsV])⟩
  have h2 := hd.2.2
  rw [h] at h2
  exact (Option.some.inj h2).symm
theorem vx_runVW {y : MethodName} {bytes cc : ByteArray} {maxL nL mc ms n index : Nat} {ret : Option FieldType} {hh : List (Nat × Nat × Nat × Nat)} {ws : List Cond} {rm : Room} {Pc : Array Value → State → Prop} {Qc : Array Value → State → Outcome → State → Prop} {free : Addr → Prop} {Ts : List Cond} {own C : String} {b : Addr} {As rest : List Value} {g : JFrame}
    (S : CallFix p m c cc nL s args Ts own) (hM : Met l y ws rm Pc Qc mc ms free) (cw : vx_CVW R s args own C index y bytes maxL ret hh ws rm mc ms n) (hp : PreV s H C b Pc As)
    (hg : g.method = m) (hn : As.length = n) (hsize : g.locals.size = nL) (hstack : g.stack = As.reverse ++ .ref b :: rest) (hW : 2 * g.monitorRoom + (rest.map fun v => v.category).sum ≤ 8) (hdg : decode cc g.pc = .ok (.invokevirtual index, 3)) (hf : cells + mc ≤ R.cells ∧ slots + ms ≤ R.slots) :
    va_Run p l e R s m args below meth c H locs cells slots mc ms g rest (Qc (Value.ref b :: As).toArray) free := by
  obtain ⟨⟨hrc, hrs, hfr, hlo, hws, hcw⟩, hcode, hini, hy, hlen, hl, hin, hse⟩ := cw
  have hK : Back l R p e below s args y 3 8 (PreOf R mc ms Pc) (PostOf Qc mc ms free) := va_backW (hh := hh) (bytes := bytes) (maxL := maxL) (ret := ret) hM hp.1 hrc hrs hfr hlo hws hcw (fun a' U hW => word_at hW (Or.inl (by first | rfl | simp [Cond.onTables, Cond.keeps, Cond.steady])) hini)
  obtain ⟨hx, hb, hml, ho, -⟩ := S
  obtain ⟨-, ⟨cellB, hcB, hoB, hclB⟩, hPc⟩ := hp
  intro T hT X
  obtain ⟨v, vm₁, ⟨U', l2, c2, s2⟩, hW₁, X', ⟨g', mk, t, L, e1, e2, hq, h1, hL, h2, h3⟩, st⟩ := vx_callVW X hx (C := C) (hh := hh) (bytes := bytes) (maxL := maxL) (ret := ret) ho hl hin hse hcode hy hK (by rw [hT]; exact hcB) hoB hclB hg (hsize.trans hml.symm) (argsL := As) (rest := rest) (fun sig h => hn.trans (hlen sig h)) hstack hW (by rw [hb]; exact hdg)
    (fun vm₁ hW₁ => ⟨hf.1, hf.2, hPc (T.setVm vm₁) hT hW₁⟩)
  dsimp only [Pt.U, Pt.locs, Pt.cells, Pt.slots] at X' e1 e2 h1 h2 h3 st
  subst h1; subst h2; subst h3
  exact ⟨v, (T.setVm vm₁).calling g' mk (Value.ref b :: As).toArray, t, U', L, hT, X', hL, e1, e2, hq, st⟩
section
variable {y : MethodName} {bytes cc : ByteArray} {maxL nL mc ms n index : Nat} {ret : Option FieldType} {ws : List Cond} {rm : Room} {Pc : Array Value → State → Prop} {Qc : Array Value → State → Outcome → State → Prop} {XC : String → State → State → Prop} {free : Addr → Prop} {Ts : List Cond} {own C : String} {b : Addr} {As rest : List Value} {g : JFrame}
theorem vx_runVX {hh : List (Nat × Nat × Nat × Nat)} (S : CallFix p m c cc nL s args Ts own) (hM : vx_Met l y ws rm Pc Qc XC mc ms free) (cw : vx_CVW R s args own C index y bytes maxL ret hh ws rm mc ms n) (hp : PreV s H C b Pc As)
    (hg : g.method = m) (hn : As.length = n) (hsize : g.locals.size = nL) (hstack : g.stack = As.reverse ++ .ref b :: rest) (hW : 2 * g.monitorRoom + (rest.map fun v => v.category).sum ≤ 8) (hdg : decode cc g.pc = .ok (.invokevirtual index, 3)) (hf : cells + mc ≤ R.cells ∧ slots + ms ≤ R.slots) :
    vx_Run p l e R s m args below meth c H locs cells slots mc ms g rest (Qc (Value.ref b :: As).toArray) XC free := by
  obtain ⟨⟨hrc, hrs, hfr, hlo, hws, hcw⟩, hcode, hini, hy, hlen, hl, hin, hse⟩ := cw
  have hK : vx_Back l R p e below s args y 3 8 (PreOf R mc ms Pc) (PostOf Qc mc ms free) (vx_Post XC mc ms free) := vx_backW (hh := hh) (bytes := bytes) (maxL := maxL) (ret := ret) hM hp.1 hrc hrs hfr hlo hws hcw (fun a' U hW => word_at hW (Or.inl (by first | rfl | simp [Cond.onTables, Cond.keeps, Cond.steady])) hini)
  obtain ⟨hx, hb, hml, ho, -⟩ := S
  obtain ⟨-, ⟨cellB, hcB, hoB, hclB⟩, hPc⟩ := hp
  intro T hT X
  rcases vx_callVX X hx (C := C) (hh := hh) (bytes := bytes) (maxL := maxL) (ret := ret) ho hl hin hse hcode hy hK (by rw [hT]; exact hcB) hoB hclB hg (hsize.trans hml.symm) (argsL := As) (rest := rest) (fun sig h => hn.trans (hlen sig h)) hstack hW (by rw [hb]; exact hdg)
    (fun vm₁ hW₁ => ⟨hf.1, hf.2, hPc (T.setVm vm₁) hT hW₁⟩) with ⟨v, vm₁, ⟨U', l2, c2, s2⟩, hW₁, X', ⟨g', mk, t, L, e1, e2, hq, h1, hL, h2, h3⟩, st⟩ | ⟨q, vm₁, ⟨U', l2, c2, s2⟩, hW₁, X', ⟨g', mk, t, L, E, ce, e1, e2, hq, hce, hcv, hcl, h1, hL, h2, h3⟩, st⟩
  · dsimp only [Pt.U, Pt.locs, Pt.cells, Pt.slots] at X' e1 e2 h1 h2 h3 st
    subst h1; subst h2; subst h3
    exact Or.inl ⟨v, (T.setVm vm₁).calling g' mk (Value.ref b :: As).toArray, t, U', L, hT, X', hL, e1, e2, hq, st⟩
  · dsimp only [Pt.U, Pt.locs, Pt.cells, Pt.slots] at X' e1 e2 h1 h2 h3 st hcl
    subst h1; subst h2; subst h3
    exact Or.inr ⟨q, (T.setVm vm₁).calling g' mk (Value.ref b :: As).toArray, t, U', L, E, ce, hT, X', hL, e1, e2, hq, hce, hcv, vx_cls hW₁ hcl, st⟩
theorem vx_runSX {hh : List (Nat × Nat × Nat × Nat)} (S : CallFix p m c cc nL s args Ts own) (hM : vx_Met l y ws rm Pc Qc XC mc ms free) (cw : vx_CSW R s args own index y bytes maxL ret hh ws rm mc ms n) (hp : PreS s H Pc As)
    (hg : g.method = m) (hn : As.length = n) (hsize : g.locals.size = nL) (hstack : g.stack = As.reverse ++ rest) (hW : 2 * g.monitorRoom + (rest.map fun v => v.category).sum ≤ 8) (hdg : decode cc g.pc = .ok (.invokestatic index, 3)) (hf : cells + mc ≤ R.cells ∧ slots + ms ≤ R.slots) :
    vx_Run p l e R s m args below meth c H locs cells slots mc ms g rest (Qc As.toArray) XC free := by
  obtain ⟨⟨hrc, hrs, hfr, hlo, hws, hcw⟩, hcode, hini, hy, hlen, hl, hstt⟩ := cw
  have hK : vx_Back l R p e below s args y 3 8 (PreOf R mc ms Pc) (PostOf Qc mc ms free) (vx_Post XC mc ms free) := vx_backW (hh := hh) (bytes := bytes) (maxL := maxL) (ret := ret) hM hp.1 hrc hrs hfr hlo hws hcw (fun a' U hW => word_at hW (Or.inl (by first | rfl | simp [Cond.onTables, Cond.keeps, Cond.steady])) hini)
  obtain ⟨hx, hb, hml, ho, -⟩ := S
  intro T hT X
  rcases vx_callSX X hx (hh := hh) (bytes := bytes) (maxL := maxL) (ret := ret) ho hl hstt hini hcode hy hK hg (hsize.trans hml.symm) (argsL := As) (rest := rest) (fun sig h => hn.trans (hlen sig h)) hstack hW (by rw [hb]; exact hdg)
    (fun vm₁ hW₁ => ⟨hf.1, hf.2, hp.2 (T.setVm vm₁) hT hW₁⟩) with ⟨v, vm₁, ⟨U', l2, c2, s2⟩, hW₁, X', ⟨g', mk, t, L, e1, e2, hq, h1, hL, h2, h3⟩, st⟩ | ⟨q, vm₁, ⟨U', l2, c2, s2⟩, hW₁, X', ⟨g', mk, t, L, E, ce, e1, e2, hq, hce, hcv, hcl, h1, hL, h2, h3⟩, st⟩
  · dsimp only [Pt.U, Pt.locs, Pt.cells, Pt.slots] at X' e1 e2 h1 h2 h3 st
    subst h1; subst h2; subst h3
    exact Or.inl ⟨v, (T.setVm vm₁).calling g' mk As.toArray, t, U', L, hT, X', hL, e1, e2, hq, st⟩
  · dsimp only [Pt.U, Pt.locs, Pt.cells, Pt.slots] at X' e1 e2 h1 h2 h3 st hcl
    subst h1; subst h2; subst h3
    exact Or.inr ⟨q, (T.setVm vm₁).calling g' mk As.toArray, t, U', L, E, ce, hT, X', hL, e1, e2, hq, hce, hcv, vx_cls hW₁ hcl, st⟩
end
end VXH
theorem vx_ofWH {l : Launch} {y : MethodName} {ws ws' : List Cond} {rm : Room} {Pc : Array Value → State → Prop} {Qc : Array Value → State → Outcome → State → Prop} {XC : String → State → State → Prop} {mc ms : Nat} {free : Addr → Prop} {cc : ByteArray} {maxL : Nat} {ret : Option FieldType} {hh : List (Nat × Nat × Nat × Nat)}
    (hy : plainName y.cls = true) (hw : ws = Cond.codeWith y cc maxL ret hh :: ws')
    (body : ∀ p e s m args below meth c s₁, BodyLoose p l y (headSpec ws rm) cc maxL ret e s m args below meth c s₁ → c.maxLocals = maxL → Pc args s →
      W p l e (headSpec ws rm).room s m args below meth c s.heap [] 0 0 (vx_MQ below Qc XC args s mc ms free) (entryFrame m args maxL)) : vx_Met l y ws rm Pc Qc XC mc ms free := by
  refine MetFree.of_bodyS (code := cc) (maxLocals := maxL) (ret := ret) hy ?_ ?_
  · intro args s m h hn
    obtain ⟨m9, meth, c, hn9, h1, h2, h3, h4, -, h5, h6, -⟩ := Cond.codeWith_spec (atoms_spec (ws := ws) h _ (by rw [hw]; exact List.mem_cons_self))
    cases hn.symm.trans hn9
    exact ⟨meth, c, h1, h2, h3, h4, h5, h6⟩
  · intro p e s m args below meth c s₁ B hml hP _
    have hh0 : s₁.heap = s.heap := by rw [B.state]; rfl
    obtain ⟨t, a1, o, b1, b2, b3⟩ := body p e s m args below meth c s₁ B hml hP s₁ hh0 (Stand.of_body B)
    exact ⟨t, o, a1, b1, b2, b3⟩
/-! ===== END ===== -/
end
section
-- words that every method has: the good ones of the tables
def gW : List Cond := lw_tbl.filter goodWord
theorem gm {w : Cond} (i : Nat) (h : lw_tbl[i]? = some w) (hg : goodWord w = true) : w ∈ gW := List.mem_filter.mpr ⟨List.mem_of_getElem? h, hg⟩
theorem gm_tbl : GoodIn lw_tbl gW := fun w h => ⟨(List.mem_filter.mp h).1, good_of_word (List.mem_filter.mp h).2⟩
theorem gm_self {x : Cond} : GoodIn (x :: gW) gW := fun w h => ⟨List.mem_cons_of_mem _ h, good_of_word (List.mem_filter.mp h).2⟩
def RPt : String := "NurseryRow$Part"
def TPt : u_T := fun k => match k with
  | 0 => ("NurseryRow$Part", "first", "I", false)
  | 1 => ("NurseryRow$Part", "cells", "I", false)
  | 2 => ("NurseryRow$Part", "used", "I", false)
  | _ => ("NurseryRow$Part", "objects", "I", false)
def tyPt : Nat → FieldType := fun k => match k with
  | 0 => .int
  | 1 => .int
  | 2 => .int
  | _ => .int
theorem nmPt : ∀ a, a < 4 → ∀ b, b < 4 → a ≠ b → (TPt a).2.1 ≠ (TPt b).2.1 := by decide +kernel
theorem tyPt_ok : ∀ k, k < 4 → parseFieldDescriptor (TPt k).2.2.1 = some (tyPt k) := by decide +kernel
theorem inPt : ∀ w ∈ u_ws RPt TPt 4, w ∈ gW := by
  intro w h
  simp only [u_ws, List.mem_map, List.mem_range] at h
  obtain ⟨j, hj, rfl⟩ := h
  rcases (show j = 0 ∨ j = 1 ∨ j = 2 ∨ j = 3 by omega) with rfl | rfl | rfl | rfl
  · exact gm 76 (by decide +kernel) (by decide +kernel)
  · exact gm 78 (by decide +kernel) (by decide +kernel)
  · exact gm 80 (by decide +kernel) (by decide +kernel)
  · exact gm 82 (by decide +kernel) (by decide +kernel)
def RNr : String := "NurseryRow"
def TNr : u_T := fun k => match k with
  | 0 => ("NurseryRow", "parts", "[LNurseryRow$Part;", true)
  | 1 => ("NurseryRow", "roots", "[I", true)
  | 2 => ("NurseryRow", "copies", "[I", true)
  | 3 => ("NurseryRow", "cells", "[I", false)
  | 4 => ("NurseryRow", "copied", "I", false)
  | 5 => ("NurseryRow", "ageLimit", "I", false)
  | 6 => ("NurseryRow", "rowInUse", "I", false)
  | 7 => ("NurseryRow", "collections", "I", false)
  | 8 => ("NurseryRow", "copiesInRows", "I", false)
  | _ => ("NurseryRow", "copiesInOld", "I", false)
def tyNr : Nat → FieldType := fun k => match k with
  | 0 => .array (.object "NurseryRow$Part")
  | 1 => .array .int
  | 2 => .array .int
  | 3 => .array .int
  | 4 => .int
  | 5 => .int
  | 6 => .int
  | 7 => .int
  | 8 => .int
  | _ => .int
theorem nmNr : ∀ a, a < 10 → ∀ b, b < 10 → a ≠ b → (TNr a).2.1 ≠ (TNr b).2.1 := by decide +kernel
theorem tyNr_ok : ∀ k, k < 10 → parseFieldDescriptor (TNr k).2.2.1 = some (tyNr k) := by decide +kernel
theorem inNr : ∀ w ∈ u_ws RNr TNr 10, w ∈ gW := by
  intro w h
  simp only [u_ws, List.mem_map, List.mem_range] at h
  obtain ⟨j, hj, rfl⟩ := h
  rcases (show j = 0 ∨ j = 1 ∨ j = 2 ∨ j = 3 ∨ j = 4 ∨ j = 5 ∨ j = 6 ∨ j = 7 ∨ j = 8 ∨ j = 9 by omega) with rfl | rfl | rfl | rfl | rfl | rfl | rfl | rfl | rfl | rfl
  · exact gm 107 (by decide +kernel) (by decide +kernel)
  · exact gm 109 (by decide +kernel) (by decide +kernel)
  · exact gm 111 (by decide +kernel) (by decide +kernel)
  · exact gm 113 (by decide +kernel) (by decide +kernel)
  · exact gm 115 (by decide +kernel) (by decide +kernel)
  · exact gm 117 (by decide +kernel) (by decide +kernel)
  · exact gm 119 (by decide +kernel) (by decide +kernel)
  · exact gm 121 (by decide +kernel) (by decide +kernel)
  · exact gm 123 (by decide +kernel) (by decide +kernel)
  · exact gm 125 (by decide +kernel) (by decide +kernel)
def RMd : String := "NurseryRowModel"
def TMd : u_T := fun k => match k with
  | 0 => ("NurseryRowModel", "thrown", "I", false)
  | 1 => ("NurseryRowModel", "firsts", "[I", true)
  | 2 => ("NurseryRowModel", "sizes", "[I", true)
  | 3 => ("NurseryRowModel", "tops", "[I", true)
  | 4 => ("NurseryRowModel", "row", "I", false)
  | 5 => ("NurseryRowModel", "limited", "I", false)
  | 6 => ("NurseryRowModel", "there", "[Z", true)
  | 7 => ("NurseryRowModel", "areas", "[I", true)
  | 8 => ("NurseryRowModel", "addresses", "[I", true)
  | 9 => ("NurseryRowModel", "ages", "[I", true)
  | 10 => ("NurseryRowModel", "fields", "[I", true)
  | 11 => ("NurseryRowModel", "words", "[I", true)
  | 12 => ("NurseryRowModel", "starts", "[I", true)
  | 13 => ("NurseryRowModel", "filled", "I", false)
  | 14 => ("NurseryRowModel", "data", "[I", true)
  | 15 => ("NurseryRowModel", "spare", "[I", true)
  | 16 => ("NurseryRowModel", "oldMany", "I", false)
  | 17 => ("NurseryRowModel", "olds", "[I", true)
  | 18 => ("NurseryRowModel", "copies", "I", false)
  | 19 => ("NurseryRowModel", "copied", "[I", true)
  | 20 => ("NurseryRowModel", "moved", "[Z", true)
  | 21 => ("NurseryRowModel", "roots", "[I", true)
  | 22 => ("NurseryRowModel", "collections", "I", false)
  | 23 => ("NurseryRowModel", "toRows", "I", false)
  | _ => ("NurseryRowModel", "toOld", "I", false)
def tyMd : Nat → FieldType := fun k => match k with
  | 0 => .int
  | 1 => .array .int
  | 2 => .array .int
  | 3 => .array .int
  | 4 => .int
  | 5 => .int
  | 6 => .array .boolean
  | 7 => .array .int
  | 8 => .array .int
  | 9 => .array .int
  | 10 => .array .int
  | 11 => .array .int
  | 12 => .array .int
  | 13 => .int
  | 14 => .array .int
  | 15 => .array .int
  | 16 => .int
  | 17 => .array .int
  | 18 => .int
  | 19 => .array .int
  | 20 => .array .boolean
  | 21 => .array .int
  | 22 => .int
  | 23 => .int
  | _ => .int
theorem nmMd : ∀ a, a < 25 → ∀ b, b < 25 → a ≠ b → (TMd a).2.1 ≠ (TMd b).2.1 := by decide +kernel
theorem tyMd_ok : ∀ k, k < 25 → parseFieldDescriptor (TMd k).2.2.1 = some (tyMd k) := by decide +kernel
theorem inMd : ∀ w ∈ u_ws RMd TMd 25, w ∈ gW := by
  intro w h
  simp only [u_ws, List.mem_map, List.mem_range] at h
  obtain ⟨j, hj, rfl⟩ := h
  rcases (show j = 0 ∨ j = 1 ∨ j = 2 ∨ j = 3 ∨ j = 4 ∨ j = 5 ∨ j = 6 ∨ j = 7 ∨ j = 8 ∨ j = 9 ∨ j = 10 ∨ j = 11 ∨ j = 12 ∨ j = 13 ∨ j = 14 ∨ j = 15 ∨ j = 16 ∨ j = 17 ∨ j = 18 ∨ j = 19 ∨ j = 20 ∨ j = 21 ∨ j = 22 ∨ j = 23 ∨ j = 24 by omega) with rfl | rfl | rfl | rfl | rfl | rfl | rfl | rfl | rfl | rfl | rfl | rfl | rfl | rfl | rfl | rfl | rfl | rfl | rfl | rfl | rfl | rfl | rfl | rfl | rfl
  · exact gm 712 (by decide +kernel) (by decide +kernel)
  · exact gm 714 (by decide +kernel) (by decide +kernel)
  · exact gm 716 (by decide +kernel) (by decide +kernel)
  · exact gm 718 (by decide +kernel) (by decide +kernel)
  · exact gm 720 (by decide +kernel) (by decide +kernel)
  · exact gm 722 (by decide +kernel) (by decide +kernel)
  · exact gm 724 (by decide +kernel) (by decide +kernel)
  · exact gm 726 (by decide +kernel) (by decide +kernel)
  · exact gm 728 (by decide +kernel) (by decide +kernel)
  · exact gm 730 (by decide +kernel) (by decide +kernel)
  · exact gm 732 (by decide +kernel) (by decide +kernel)
  · exact gm 734 (by decide +kernel) (by decide +kernel)
  · exact gm 736 (by decide +kernel) (by decide +kernel)
  · exact gm 738 (by decide +kernel) (by decide +kernel)
  · exact gm 740 (by decide +kernel) (by decide +kernel)
  · exact gm 742 (by decide +kernel) (by decide +kernel)
  · exact gm 744 (by decide +kernel) (by decide +kernel)
  · exact gm 746 (by decide +kernel) (by decide +kernel)
  · exact gm 748 (by decide +kernel) (by decide +kernel)
  · exact gm 750 (by decide +kernel) (by decide +kernel)
  · exact gm 752 (by decide +kernel) (by decide +kernel)
  · exact gm 754 (by decide +kernel) (by decide +kernel)
  · exact gm 756 (by decide +kernel) (by decide +kernel)
  · exact gm 758 (by decide +kernel) (by decide +kernel)
  · exact gm 760 (by decide +kernel) (by decide +kernel)
abbrev gC : List vw_C := [(RPt, TPt, 4), (RNr, TNr, 10), (RMd, TMd, 25)]
abbrev cNr_init : ByteArray := prog_1_method_1_code
def yNr_init : MethodName := ⟨"NurseryRow", "<init>", "()V"⟩
theorem k_Nr_init : Cond.code yNr_init cNr_init 2 (none : Option Jvm.ClassFile.FieldType) ∈ gW := gm 57 (by decide +kernel) (by decide +kernel)
theorem n_Nr_init : yNr_init.cls = "NurseryRow" ∧ yNr_init.cls ≠ "java/lang/invoke/MethodHandle" ∧ yNr_init.cls ≠ "java/lang/invoke/VarHandle" ∧ (parseMethodDescriptor yNr_init.desc).map (fun d => d.parameters.length) = some 0 := by decide +kernel
theorem ki_Nr_init : Cond.instanceMethod yNr_init ∈ gW := gm 56 (by decide +kernel) (by decide +kernel)
abbrev cPt_init : ByteArray := prog_2_method_1_code
def yPt_init : MethodName := ⟨"NurseryRow$Part", "<init>", "()V"⟩
theorem k_Pt_init : Cond.code yPt_init cPt_init 1 (none : Option Jvm.ClassFile.FieldType) ∈ gW := gm 66 (by decide +kernel) (by decide +kernel)
theorem n_Pt_init : yPt_init.cls = "NurseryRow$Part" ∧ yPt_init.cls ≠ "java/lang/invoke/MethodHandle" ∧ yPt_init.cls ≠ "java/lang/invoke/VarHandle" ∧ (parseMethodDescriptor yPt_init.desc).map (fun d => d.parameters.length) = some 0 := by decide +kernel
theorem ki_Pt_init : Cond.instanceMethod yPt_init ∈ gW := gm 65 (by decide +kernel) (by decide +kernel)
abbrev cNr_layParts : ByteArray := prog_1_method_16_code
def yNr_layParts : MethodName := ⟨"NurseryRow", "layParts", "(III)V"⟩
theorem k_Nr_layParts : Cond.code yNr_layParts cNr_layParts 4 (none : Option Jvm.ClassFile.FieldType) ∈ gW := gm 88 (by decide +kernel) (by decide +kernel)
theorem n_Nr_layParts : yNr_layParts.cls = "NurseryRow" ∧ yNr_layParts.cls ≠ "java/lang/invoke/MethodHandle" ∧ yNr_layParts.cls ≠ "java/lang/invoke/VarHandle" ∧ (parseMethodDescriptor yNr_layParts.desc).map (fun d => d.parameters.length) = some 3 := by decide +kernel
theorem ki_Nr_layParts : Cond.instanceMethod yNr_layParts ∈ gW := gm 87 (by decide +kernel) (by decide +kernel)
theorem ke_Nr_layParts : Cond.selects "NurseryRow" yNr_layParts yNr_layParts ∈ gW := gm 0 (by decide +kernel) (by decide +kernel)
abbrev cPt_lay : ByteArray := prog_2_method_2_code
def yPt_lay : MethodName := ⟨"NurseryRow$Part", "lay", "(II)V"⟩
theorem k_Pt_lay : Cond.code yPt_lay cPt_lay 3 (none : Option Jvm.ClassFile.FieldType) ∈ gW := gm 92 (by decide +kernel) (by decide +kernel)
theorem n_Pt_lay : yPt_lay.cls = "NurseryRow$Part" ∧ yPt_lay.cls ≠ "java/lang/invoke/MethodHandle" ∧ yPt_lay.cls ≠ "java/lang/invoke/VarHandle" ∧ (parseMethodDescriptor yPt_lay.desc).map (fun d => d.parameters.length) = some 2 := by decide +kernel
theorem ki_Pt_lay : Cond.instanceMethod yPt_lay ∈ gW := gm 90 (by decide +kernel) (by decide +kernel)
theorem ke_Pt_lay : Cond.selects "NurseryRow$Part" yPt_lay yPt_lay ∈ gW := gm 91 (by decide +kernel) (by decide +kernel)
abbrev cPt_empty : ByteArray := prog_2_method_3_code
def yPt_empty : MethodName := ⟨"NurseryRow$Part", "empty", "()V"⟩
theorem k_Pt_empty : Cond.code yPt_empty cPt_empty 1 (none : Option Jvm.ClassFile.FieldType) ∈ gW := gm 96 (by decide +kernel) (by decide +kernel)
theorem n_Pt_empty : yPt_empty.cls = "NurseryRow$Part" ∧ yPt_empty.cls ≠ "java/lang/invoke/MethodHandle" ∧ yPt_empty.cls ≠ "java/lang/invoke/VarHandle" ∧ (parseMethodDescriptor yPt_empty.desc).map (fun d => d.parameters.length) = some 0 := by decide +kernel
theorem ki_Pt_empty : Cond.instanceMethod yPt_empty ∈ gW := gm 94 (by decide +kernel) (by decide +kernel)
theorem ke_Pt_empty : Cond.selects "NurseryRow$Part" yPt_empty yPt_empty ∈ gW := gm 95 (by decide +kernel) (by decide +kernel)
abbrev cLw_space : ByteArray := method_3_code
def yLw_space : MethodName := ⟨"NurseryRowLaw", "space", "(LNurseryRow;III[J)I"⟩
theorem k_Lw_space : Cond.codeWith yLw_space cLw_space 6 (some .int) [(0, 12, 15, 13)] ∈ gW := gm 131 (by decide +kernel) (by decide +kernel)
theorem n_Lw_space : yLw_space.cls = "NurseryRowLaw" ∧ yLw_space.cls ≠ "java/lang/invoke/MethodHandle" ∧ yLw_space.cls ≠ "java/lang/invoke/VarHandle" ∧ (parseMethodDescriptor yLw_space.desc).map (fun d => d.parameters.length) = some 5 := by decide +kernel
theorem kt_Lw_space : Cond.static yLw_space ∈ gW := gm 130 (by decide +kernel) (by decide +kernel)
abbrev cNr_space : ByteArray := prog_1_method_2_code
def yNr_space : MethodName := ⟨"NurseryRow", "space", "(III)I"⟩
theorem k_Nr_space : Cond.code yNr_space cNr_space 5 (some .int) ∈ gW := gm 136 (by decide +kernel) (by decide +kernel)
theorem n_Nr_space : yNr_space.cls = "NurseryRow" ∧ yNr_space.cls ≠ "java/lang/invoke/MethodHandle" ∧ yNr_space.cls ≠ "java/lang/invoke/VarHandle" ∧ (parseMethodDescriptor yNr_space.desc).map (fun d => d.parameters.length) = some 3 := by decide +kernel
theorem ki_Nr_space : Cond.instanceMethod yNr_space ∈ gW := gm 134 (by decide +kernel) (by decide +kernel)
theorem ke_Nr_space : Cond.selects "NurseryRow" yNr_space yNr_space ∈ gW := gm 135 (by decide +kernel) (by decide +kernel)
abbrev cNr_isWithin : ByteArray := prog_1_method_15_code
def yNr_isWithin : MethodName := ⟨"NurseryRow", "isWithin", "(III)Z"⟩
theorem k_Nr_isWithin : Cond.code yNr_isWithin cNr_isWithin 3 (some .boolean) ∈ gW := gm 139 (by decide +kernel) (by decide +kernel)
theorem n_Nr_isWithin : yNr_isWithin.cls = "NurseryRow" ∧ yNr_isWithin.cls ≠ "java/lang/invoke/MethodHandle" ∧ yNr_isWithin.cls ≠ "java/lang/invoke/VarHandle" ∧ (parseMethodDescriptor yNr_isWithin.desc).map (fun d => d.parameters.length) = some 3 := by decide +kernel
theorem kt_Nr_isWithin : Cond.static yNr_isWithin ∈ gW := gm 138 (by decide +kernel) (by decide +kernel)
abbrev cNr_allCells : ByteArray := prog_1_method_17_code
def yNr_allCells : MethodName := ⟨"NurseryRow", "allCells", "()I"⟩
theorem k_Nr_allCells : Cond.code yNr_allCells cNr_allCells 3 (some .int) ∈ gW := gm 211 (by decide +kernel) (by decide +kernel)
theorem n_Nr_allCells : yNr_allCells.cls = "NurseryRow" ∧ yNr_allCells.cls ≠ "java/lang/invoke/MethodHandle" ∧ yNr_allCells.cls ≠ "java/lang/invoke/VarHandle" ∧ (parseMethodDescriptor yNr_allCells.desc).map (fun d => d.parameters.length) = some 0 := by decide +kernel
theorem ki_Nr_allCells : Cond.instanceMethod yNr_allCells ∈ gW := gm 210 (by decide +kernel) (by decide +kernel)
theorem ke_Nr_allCells : Cond.selects "NurseryRow" yNr_allCells yNr_allCells ∈ gW := gm 2 (by decide +kernel) (by decide +kernel)
abbrev cNr_growCells : ByteArray := prog_1_method_18_code
def yNr_growCells : MethodName := ⟨"NurseryRow", "growCells", "()V"⟩
theorem k_Nr_growCells : Cond.code yNr_growCells cNr_growCells 1 (none : Option Jvm.ClassFile.FieldType) ∈ gW := gm 215 (by decide +kernel) (by decide +kernel)
theorem n_Nr_growCells : yNr_growCells.cls = "NurseryRow" ∧ yNr_growCells.cls ≠ "java/lang/invoke/MethodHandle" ∧ yNr_growCells.cls ≠ "java/lang/invoke/VarHandle" ∧ (parseMethodDescriptor yNr_growCells.desc).map (fun d => d.parameters.length) = some 0 := by decide +kernel
theorem ki_Nr_growCells : Cond.instanceMethod yNr_growCells ∈ gW := gm 214 (by decide +kernel) (by decide +kernel)
theorem ke_Nr_growCells : Cond.selects "NurseryRow" yNr_growCells yNr_growCells ∈ gW := gm 3 (by decide +kernel) (by decide +kernel)
abbrev cAr_fill2 : ByteArray := prog_19_method_103_code
def yAr_fill2 : MethodName := ⟨"java/util/Arrays", "fill", "([II)V"⟩
theorem k_Ar_fill2 : Cond.code yAr_fill2 cAr_fill2 4 (none : Option Jvm.ClassFile.FieldType) ∈ gW := gm 218 (by decide +kernel) (by decide +kernel)
theorem n_Ar_fill2 : yAr_fill2.cls = "java/util/Arrays" ∧ yAr_fill2.cls ≠ "java/lang/invoke/MethodHandle" ∧ yAr_fill2.cls ≠ "java/lang/invoke/VarHandle" ∧ (parseMethodDescriptor yAr_fill2.desc).map (fun d => d.parameters.length) = some 2 := by decide +kernel
theorem kt_Ar_fill2 : Cond.static yAr_fill2 ∈ gW := gm 217 (by decide +kernel) (by decide +kernel)
abbrev cLw_limit : ByteArray := method_4_code
def yLw_limit : MethodName := ⟨"NurseryRowLaw", "limit", "(LNurseryRow;I[J)I"⟩
theorem k_Lw_limit : Cond.codeWith yLw_limit cLw_limit 4 (some .int) [(0, 9, 12, 13)] ∈ gW := gm 221 (by decide +kernel) (by decide +kernel)
theorem n_Lw_limit : yLw_limit.cls = "NurseryRowLaw" ∧ yLw_limit.cls ≠ "java/lang/invoke/MethodHandle" ∧ yLw_limit.cls ≠ "java/lang/invoke/VarHandle" ∧ (parseMethodDescriptor yLw_limit.desc).map (fun d => d.parameters.length) = some 3 := by decide +kernel
theorem kt_Lw_limit : Cond.static yLw_limit ∈ gW := gm 220 (by decide +kernel) (by decide +kernel)
abbrev cNr_limit : ByteArray := prog_1_method_3_code
def yNr_limit : MethodName := ⟨"NurseryRow", "limit", "(I)I"⟩
theorem k_Nr_limit : Cond.code yNr_limit cNr_limit 3 (some .int) ∈ gW := gm 225 (by decide +kernel) (by decide +kernel)
theorem n_Nr_limit : yNr_limit.cls = "NurseryRow" ∧ yNr_limit.cls ≠ "java/lang/invoke/MethodHandle" ∧ yNr_limit.cls ≠ "java/lang/invoke/VarHandle" ∧ (parseMethodDescriptor yNr_limit.desc).map (fun d => d.parameters.length) = some 1 := by decide +kernel
theorem ki_Nr_limit : Cond.instanceMethod yNr_limit ∈ gW := gm 223 (by decide +kernel) (by decide +kernel)
theorem ke_Nr_limit : Cond.selects "NurseryRow" yNr_limit yNr_limit ∈ gW := gm 224 (by decide +kernel) (by decide +kernel)
abbrev cLw_make : ByteArray := method_5_code
def yLw_make : MethodName := ⟨"NurseryRowLaw", "make", "(LNurseryRow;II[J)I"⟩
theorem k_Lw_make : Cond.codeWith yLw_make cLw_make 5 (some .int) [(0, 10, 13, 13)] ∈ gW := gm 229 (by decide +kernel) (by decide +kernel)
theorem n_Lw_make : yLw_make.cls = "NurseryRowLaw" ∧ yLw_make.cls ≠ "java/lang/invoke/MethodHandle" ∧ yLw_make.cls ≠ "java/lang/invoke/VarHandle" ∧ (parseMethodDescriptor yLw_make.desc).map (fun d => d.parameters.length) = some 4 := by decide +kernel
theorem kt_Lw_make : Cond.static yLw_make ∈ gW := gm 228 (by decide +kernel) (by decide +kernel)
abbrev cNr_make : ByteArray := prog_1_method_4_code
def yNr_make : MethodName := ⟨"NurseryRow", "make", "(II)I"⟩
theorem k_Nr_make : Cond.code yNr_make cNr_make 5 (some .int) ∈ gW := gm 233 (by decide +kernel) (by decide +kernel)
theorem n_Nr_make : yNr_make.cls = "NurseryRow" ∧ yNr_make.cls ≠ "java/lang/invoke/MethodHandle" ∧ yNr_make.cls ≠ "java/lang/invoke/VarHandle" ∧ (parseMethodDescriptor yNr_make.desc).map (fun d => d.parameters.length) = some 2 := by decide +kernel
theorem ki_Nr_make : Cond.instanceMethod yNr_make ∈ gW := gm 231 (by decide +kernel) (by decide +kernel)
theorem ke_Nr_make : Cond.selects "NurseryRow" yNr_make yNr_make ∈ gW := gm 232 (by decide +kernel) (by decide +kernel)
abbrev cPt_free : ByteArray := prog_2_method_4_code
def yPt_free : MethodName := ⟨"NurseryRow$Part", "free", "()I"⟩
theorem k_Pt_free : Cond.code yPt_free cPt_free 1 (some .int) ∈ gW := gm 238 (by decide +kernel) (by decide +kernel)
theorem n_Pt_free : yPt_free.cls = "NurseryRow$Part" ∧ yPt_free.cls ≠ "java/lang/invoke/MethodHandle" ∧ yPt_free.cls ≠ "java/lang/invoke/VarHandle" ∧ (parseMethodDescriptor yPt_free.desc).map (fun d => d.parameters.length) = some 0 := by decide +kernel
theorem ki_Pt_free : Cond.instanceMethod yPt_free ∈ gW := gm 236 (by decide +kernel) (by decide +kernel)
theorem ke_Pt_free : Cond.selects "NurseryRow$Part" yPt_free yPt_free ∈ gW := gm 237 (by decide +kernel) (by decide +kernel)
abbrev cPt_take : ByteArray := prog_2_method_7_code
def yPt_take : MethodName := ⟨"NurseryRow$Part", "take", "(I)I"⟩
theorem k_Pt_take : Cond.code yPt_take cPt_take 3 (some .int) ∈ gW := gm 242 (by decide +kernel) (by decide +kernel)
theorem n_Pt_take : yPt_take.cls = "NurseryRow$Part" ∧ yPt_take.cls ≠ "java/lang/invoke/MethodHandle" ∧ yPt_take.cls ≠ "java/lang/invoke/VarHandle" ∧ (parseMethodDescriptor yPt_take.desc).map (fun d => d.parameters.length) = some 1 := by decide +kernel
theorem ki_Pt_take : Cond.instanceMethod yPt_take ∈ gW := gm 240 (by decide +kernel) (by decide +kernel)
theorem ke_Pt_take : Cond.selects "NurseryRow$Part" yPt_take yPt_take ∈ gW := gm 241 (by decide +kernel) (by decide +kernel)
abbrev cPt_end : ByteArray := prog_2_method_5_code
def yPt_end : MethodName := ⟨"NurseryRow$Part", "end", "()I"⟩
theorem k_Pt_end : Cond.code yPt_end cPt_end 1 (some .int) ∈ gW := gm 246 (by decide +kernel) (by decide +kernel)
theorem n_Pt_end : yPt_end.cls = "NurseryRow$Part" ∧ yPt_end.cls ≠ "java/lang/invoke/MethodHandle" ∧ yPt_end.cls ≠ "java/lang/invoke/VarHandle" ∧ (parseMethodDescriptor yPt_end.desc).map (fun d => d.parameters.length) = some 0 := by decide +kernel
theorem ki_Pt_end : Cond.instanceMethod yPt_end ∈ gW := gm 244 (by decide +kernel) (by decide +kernel)
theorem ke_Pt_end : Cond.selects "NurseryRow$Part" yPt_end yPt_end ∈ gW := gm 245 (by decide +kernel) (by decide +kernel)
abbrev cAr_fill4 : ByteArray := prog_19_method_104_code
def yAr_fill4 : MethodName := ⟨"java/util/Arrays", "fill", "([IIII)V"⟩
theorem k_Ar_fill4 : Cond.code yAr_fill4 cAr_fill4 5 (none : Option Jvm.ClassFile.FieldType) ∈ gW := gm 249 (by decide +kernel) (by decide +kernel)
theorem n_Ar_fill4 : yAr_fill4.cls = "java/util/Arrays" ∧ yAr_fill4.cls ≠ "java/lang/invoke/MethodHandle" ∧ yAr_fill4.cls ≠ "java/lang/invoke/VarHandle" ∧ (parseMethodDescriptor yAr_fill4.desc).map (fun d => d.parameters.length) = some 4 := by decide +kernel
theorem kt_Ar_fill4 : Cond.static yAr_fill4 ∈ gW := gm 248 (by decide +kernel) (by decide +kernel)
abbrev cAr_rangeCheck : ByteArray := prog_19_method_30_code
def yAr_rangeCheck : MethodName := ⟨"java/util/Arrays", "rangeCheck", "(III)V"⟩
theorem k_Ar_rangeCheck : Cond.code yAr_rangeCheck cAr_rangeCheck 3 (none : Option Jvm.ClassFile.FieldType) ∈ gW := gm 252 (by decide +kernel) (by decide +kernel)
theorem n_Ar_rangeCheck : yAr_rangeCheck.cls = "java/util/Arrays" ∧ yAr_rangeCheck.cls ≠ "java/lang/invoke/MethodHandle" ∧ yAr_rangeCheck.cls ≠ "java/lang/invoke/VarHandle" ∧ (parseMethodDescriptor yAr_rangeCheck.desc).map (fun d => d.parameters.length) = some 3 := by decide +kernel
theorem kt_Ar_rangeCheck : Cond.static yAr_rangeCheck ∈ gW := gm 251 (by decide +kernel) (by decide +kernel)
abbrev cLw_set : ByteArray := method_6_code
def yLw_set : MethodName := ⟨"NurseryRowLaw", "set", "(LNurseryRow;III[J)I"⟩
theorem k_Lw_set : Cond.codeWith yLw_set cLw_set 6 (some .int) [(0, 12, 15, 26)] ∈ gW := gm 497 (by decide +kernel) (by decide +kernel)
theorem n_Lw_set : yLw_set.cls = "NurseryRowLaw" ∧ yLw_set.cls ≠ "java/lang/invoke/MethodHandle" ∧ yLw_set.cls ≠ "java/lang/invoke/VarHandle" ∧ (parseMethodDescriptor yLw_set.desc).map (fun d => d.parameters.length) = some 5 := by decide +kernel
theorem kt_Lw_set : Cond.static yLw_set ∈ gW := gm 496 (by decide +kernel) (by decide +kernel)
abbrev cNr_set : ByteArray := prog_1_method_5_code
def yNr_set : MethodName := ⟨"NurseryRow", "set", "(III)I"⟩
theorem k_Nr_set : Cond.code yNr_set cNr_set 5 (some .int) ∈ gW := gm 502 (by decide +kernel) (by decide +kernel)
theorem n_Nr_set : yNr_set.cls = "NurseryRow" ∧ yNr_set.cls ≠ "java/lang/invoke/MethodHandle" ∧ yNr_set.cls ≠ "java/lang/invoke/VarHandle" ∧ (parseMethodDescriptor yNr_set.desc).map (fun d => d.parameters.length) = some 3 := by decide +kernel
theorem ki_Nr_set : Cond.instanceMethod yNr_set ∈ gW := gm 500 (by decide +kernel) (by decide +kernel)
theorem ke_Nr_set : Cond.selects "NurseryRow" yNr_set yNr_set ∈ gW := gm 501 (by decide +kernel) (by decide +kernel)
abbrev cNr_fieldCell : ByteArray := prog_1_method_25_code
def yNr_fieldCell : MethodName := ⟨"NurseryRow", "fieldCell", "(II)I"⟩
theorem k_Nr_fieldCell : Cond.code yNr_fieldCell cNr_fieldCell 3 (some .int) ∈ gW := gm 506 (by decide +kernel) (by decide +kernel)
theorem n_Nr_fieldCell : yNr_fieldCell.cls = "NurseryRow" ∧ yNr_fieldCell.cls ≠ "java/lang/invoke/MethodHandle" ∧ yNr_fieldCell.cls ≠ "java/lang/invoke/VarHandle" ∧ (parseMethodDescriptor yNr_fieldCell.desc).map (fun d => d.parameters.length) = some 2 := by decide +kernel
theorem ki_Nr_fieldCell : Cond.instanceMethod yNr_fieldCell ∈ gW := gm 505 (by decide +kernel) (by decide +kernel)
theorem ke_Nr_fieldCell : Cond.selects "NurseryRow" yNr_fieldCell yNr_fieldCell ∈ gW := gm 4 (by decide +kernel) (by decide +kernel)
abbrev cNr_isObject : ByteArray := prog_1_method_21_code
def yNr_isObject : MethodName := ⟨"NurseryRow", "isObject", "(I)Z"⟩
theorem k_Nr_isObject : Cond.code yNr_isObject cNr_isObject 5 (some .boolean) ∈ gW := gm 510 (by decide +kernel) (by decide +kernel)
theorem n_Nr_isObject : yNr_isObject.cls = "NurseryRow" ∧ yNr_isObject.cls ≠ "java/lang/invoke/MethodHandle" ∧ yNr_isObject.cls ≠ "java/lang/invoke/VarHandle" ∧ (parseMethodDescriptor yNr_isObject.desc).map (fun d => d.parameters.length) = some 1 := by decide +kernel
theorem ki_Nr_isObject : Cond.instanceMethod yNr_isObject ∈ gW := gm 509 (by decide +kernel) (by decide +kernel)
theorem ke_Nr_isObject : Cond.selects "NurseryRow" yNr_isObject yNr_isObject ∈ gW := gm 5 (by decide +kernel) (by decide +kernel)
abbrev cNr_partOf : ByteArray := prog_1_method_22_code
def yNr_partOf : MethodName := ⟨"NurseryRow", "partOf", "(I)I"⟩
theorem k_Nr_partOf : Cond.code yNr_partOf cNr_partOf 3 (some .int) ∈ gW := gm 514 (by decide +kernel) (by decide +kernel)
theorem n_Nr_partOf : yNr_partOf.cls = "NurseryRow" ∧ yNr_partOf.cls ≠ "java/lang/invoke/MethodHandle" ∧ yNr_partOf.cls ≠ "java/lang/invoke/VarHandle" ∧ (parseMethodDescriptor yNr_partOf.desc).map (fun d => d.parameters.length) = some 1 := by decide +kernel
theorem ki_Nr_partOf : Cond.instanceMethod yNr_partOf ∈ gW := gm 513 (by decide +kernel) (by decide +kernel)
theorem ke_Nr_partOf : Cond.selects "NurseryRow" yNr_partOf yNr_partOf ∈ gW := gm 6 (by decide +kernel) (by decide +kernel)
abbrev cPt_covers : ByteArray := prog_2_method_6_code
def yPt_covers : MethodName := ⟨"NurseryRow$Part", "covers", "(I)Z"⟩
theorem k_Pt_covers : Cond.code yPt_covers cPt_covers 2 (some .boolean) ∈ gW := gm 518 (by decide +kernel) (by decide +kernel)
theorem n_Pt_covers : yPt_covers.cls = "NurseryRow$Part" ∧ yPt_covers.cls ≠ "java/lang/invoke/MethodHandle" ∧ yPt_covers.cls ≠ "java/lang/invoke/VarHandle" ∧ (parseMethodDescriptor yPt_covers.desc).map (fun d => d.parameters.length) = some 1 := by decide +kernel
theorem ki_Pt_covers : Cond.instanceMethod yPt_covers ∈ gW := gm 516 (by decide +kernel) (by decide +kernel)
theorem ke_Pt_covers : Cond.selects "NurseryRow$Part" yPt_covers yPt_covers ∈ gW := gm 517 (by decide +kernel) (by decide +kernel)
abbrev cNr_sizeAt : ByteArray := prog_1_method_24_code
def yNr_sizeAt : MethodName := ⟨"NurseryRow", "sizeAt", "(I)I"⟩
theorem k_Nr_sizeAt : Cond.code yNr_sizeAt cNr_sizeAt 2 (some .int) ∈ gW := gm 522 (by decide +kernel) (by decide +kernel)
theorem n_Nr_sizeAt : yNr_sizeAt.cls = "NurseryRow" ∧ yNr_sizeAt.cls ≠ "java/lang/invoke/MethodHandle" ∧ yNr_sizeAt.cls ≠ "java/lang/invoke/VarHandle" ∧ (parseMethodDescriptor yNr_sizeAt.desc).map (fun d => d.parameters.length) = some 1 := by decide +kernel
theorem ki_Nr_sizeAt : Cond.instanceMethod yNr_sizeAt ∈ gW := gm 521 (by decide +kernel) (by decide +kernel)
theorem ke_Nr_sizeAt : Cond.selects "NurseryRow" yNr_sizeAt yNr_sizeAt ∈ gW := gm 7 (by decide +kernel) (by decide +kernel)
abbrev cNr_isNothingOrObject : ByteArray := prog_1_method_20_code
def yNr_isNothingOrObject : MethodName := ⟨"NurseryRow", "isNothingOrObject", "(I)Z"⟩
theorem k_Nr_isNothingOrObject : Cond.code yNr_isNothingOrObject cNr_isNothingOrObject 2 (some .boolean) ∈ gW := gm 526 (by decide +kernel) (by decide +kernel)
theorem n_Nr_isNothingOrObject : yNr_isNothingOrObject.cls = "NurseryRow" ∧ yNr_isNothingOrObject.cls ≠ "java/lang/invoke/MethodHandle" ∧ yNr_isNothingOrObject.cls ≠ "java/lang/invoke/VarHandle" ∧ (parseMethodDescriptor yNr_isNothingOrObject.desc).map (fun d => d.parameters.length) = some 1 := by decide +kernel
theorem ki_Nr_isNothingOrObject : Cond.instanceMethod yNr_isNothingOrObject ∈ gW := gm 525 (by decide +kernel) (by decide +kernel)
theorem ke_Nr_isNothingOrObject : Cond.selects "NurseryRow" yNr_isNothingOrObject yNr_isNothingOrObject ∈ gW := gm 8 (by decide +kernel) (by decide +kernel)
abbrev cNr_exchange : ByteArray := prog_1_method_27_code
def yNr_exchange : MethodName := ⟨"NurseryRow", "exchange", "(II)I"⟩
theorem k_Nr_exchange : Cond.code yNr_exchange cNr_exchange 4 (some .int) ∈ gW := gm 546 (by decide +kernel) (by decide +kernel)
theorem n_Nr_exchange : yNr_exchange.cls = "NurseryRow" ∧ yNr_exchange.cls ≠ "java/lang/invoke/MethodHandle" ∧ yNr_exchange.cls ≠ "java/lang/invoke/VarHandle" ∧ (parseMethodDescriptor yNr_exchange.desc).map (fun d => d.parameters.length) = some 2 := by decide +kernel
theorem ki_Nr_exchange : Cond.instanceMethod yNr_exchange ∈ gW := gm 545 (by decide +kernel) (by decide +kernel)
theorem ke_Nr_exchange : Cond.selects "NurseryRow" yNr_exchange yNr_exchange ∈ gW := gm 9 (by decide +kernel) (by decide +kernel)
abbrev cLw_get : ByteArray := method_7_code
def yLw_get : MethodName := ⟨"NurseryRowLaw", "get", "(LNurseryRow;II[J)I"⟩
theorem k_Lw_get : Cond.codeWith yLw_get cLw_get 5 (some .int) [(0, 10, 13, 26)] ∈ gW := gm 549 (by decide +kernel) (by decide +kernel)
theorem n_Lw_get : yLw_get.cls = "NurseryRowLaw" ∧ yLw_get.cls ≠ "java/lang/invoke/MethodHandle" ∧ yLw_get.cls ≠ "java/lang/invoke/VarHandle" ∧ (parseMethodDescriptor yLw_get.desc).map (fun d => d.parameters.length) = some 4 := by decide +kernel
theorem kt_Lw_get : Cond.static yLw_get ∈ gW := gm 548 (by decide +kernel) (by decide +kernel)
abbrev cNr_get : ByteArray := prog_1_method_6_code
def yNr_get : MethodName := ⟨"NurseryRow", "get", "(II)I"⟩
theorem k_Nr_get : Cond.code yNr_get cNr_get 4 (some .int) ∈ gW := gm 553 (by decide +kernel) (by decide +kernel)
theorem n_Nr_get : yNr_get.cls = "NurseryRow" ∧ yNr_get.cls ≠ "java/lang/invoke/MethodHandle" ∧ yNr_get.cls ≠ "java/lang/invoke/VarHandle" ∧ (parseMethodDescriptor yNr_get.desc).map (fun d => d.parameters.length) = some 2 := by decide +kernel
theorem ki_Nr_get : Cond.instanceMethod yNr_get ∈ gW := gm 551 (by decide +kernel) (by decide +kernel)
theorem ke_Nr_get : Cond.selects "NurseryRow" yNr_get yNr_get ∈ gW := gm 552 (by decide +kernel) (by decide +kernel)
abbrev cLw_put : ByteArray := method_8_code
def yLw_put : MethodName := ⟨"NurseryRowLaw", "put", "(LNurseryRow;III[J)I"⟩
theorem k_Lw_put : Cond.codeWith yLw_put cLw_put 6 (some .int) [(0, 12, 15, 26)] ∈ gW := gm 556 (by decide +kernel) (by decide +kernel)
theorem n_Lw_put : yLw_put.cls = "NurseryRowLaw" ∧ yLw_put.cls ≠ "java/lang/invoke/MethodHandle" ∧ yLw_put.cls ≠ "java/lang/invoke/VarHandle" ∧ (parseMethodDescriptor yLw_put.desc).map (fun d => d.parameters.length) = some 5 := by decide +kernel
theorem kt_Lw_put : Cond.static yLw_put ∈ gW := gm 555 (by decide +kernel) (by decide +kernel)
abbrev cNr_put : ByteArray := prog_1_method_7_code
def yNr_put : MethodName := ⟨"NurseryRow", "put", "(III)I"⟩
theorem k_Nr_put : Cond.code yNr_put cNr_put 5 (some .int) ∈ gW := gm 560 (by decide +kernel) (by decide +kernel)
theorem n_Nr_put : yNr_put.cls = "NurseryRow" ∧ yNr_put.cls ≠ "java/lang/invoke/MethodHandle" ∧ yNr_put.cls ≠ "java/lang/invoke/VarHandle" ∧ (parseMethodDescriptor yNr_put.desc).map (fun d => d.parameters.length) = some 3 := by decide +kernel
theorem ki_Nr_put : Cond.instanceMethod yNr_put ∈ gW := gm 558 (by decide +kernel) (by decide +kernel)
theorem ke_Nr_put : Cond.selects "NurseryRow" yNr_put yNr_put ∈ gW := gm 559 (by decide +kernel) (by decide +kernel)
abbrev cNr_wordCell : ByteArray := prog_1_method_26_code
def yNr_wordCell : MethodName := ⟨"NurseryRow", "wordCell", "(II)I"⟩
theorem k_Nr_wordCell : Cond.code yNr_wordCell cNr_wordCell 3 (some .int) ∈ gW := gm 564 (by decide +kernel) (by decide +kernel)
theorem n_Nr_wordCell : yNr_wordCell.cls = "NurseryRow" ∧ yNr_wordCell.cls ≠ "java/lang/invoke/MethodHandle" ∧ yNr_wordCell.cls ≠ "java/lang/invoke/VarHandle" ∧ (parseMethodDescriptor yNr_wordCell.desc).map (fun d => d.parameters.length) = some 2 := by decide +kernel
theorem ki_Nr_wordCell : Cond.instanceMethod yNr_wordCell ∈ gW := gm 563 (by decide +kernel) (by decide +kernel)
theorem ke_Nr_wordCell : Cond.selects "NurseryRow" yNr_wordCell yNr_wordCell ∈ gW := gm 10 (by decide +kernel) (by decide +kernel)
abbrev cLw_word : ByteArray := method_9_code
def yLw_word : MethodName := ⟨"NurseryRowLaw", "word", "(LNurseryRow;II[J)I"⟩
theorem k_Lw_word : Cond.codeWith yLw_word cLw_word 5 (some .int) [(0, 10, 13, 26)] ∈ gW := gm 568 (by decide +kernel) (by decide +kernel)
theorem n_Lw_word : yLw_word.cls = "NurseryRowLaw" ∧ yLw_word.cls ≠ "java/lang/invoke/MethodHandle" ∧ yLw_word.cls ≠ "java/lang/invoke/VarHandle" ∧ (parseMethodDescriptor yLw_word.desc).map (fun d => d.parameters.length) = some 4 := by decide +kernel
theorem kt_Lw_word : Cond.static yLw_word ∈ gW := gm 567 (by decide +kernel) (by decide +kernel)
abbrev cNr_word : ByteArray := prog_1_method_8_code
def yNr_word : MethodName := ⟨"NurseryRow", "word", "(II)I"⟩
theorem k_Nr_word : Cond.code yNr_word cNr_word 4 (some .int) ∈ gW := gm 572 (by decide +kernel) (by decide +kernel)
theorem n_Nr_word : yNr_word.cls = "NurseryRow" ∧ yNr_word.cls ≠ "java/lang/invoke/MethodHandle" ∧ yNr_word.cls ≠ "java/lang/invoke/VarHandle" ∧ (parseMethodDescriptor yNr_word.desc).map (fun d => d.parameters.length) = some 2 := by decide +kernel
theorem ki_Nr_word : Cond.instanceMethod yNr_word ∈ gW := gm 570 (by decide +kernel) (by decide +kernel)
theorem ke_Nr_word : Cond.selects "NurseryRow" yNr_word yNr_word ∈ gW := gm 571 (by decide +kernel) (by decide +kernel)
abbrev cLw_root : ByteArray := method_10_code
def yLw_root : MethodName := ⟨"NurseryRowLaw", "root", "(LNurseryRow;II[J)I"⟩
theorem k_Lw_root : Cond.codeWith yLw_root cLw_root 5 (some .int) [(0, 10, 13, 26)] ∈ gW := gm 575 (by decide +kernel) (by decide +kernel)
theorem n_Lw_root : yLw_root.cls = "NurseryRowLaw" ∧ yLw_root.cls ≠ "java/lang/invoke/MethodHandle" ∧ yLw_root.cls ≠ "java/lang/invoke/VarHandle" ∧ (parseMethodDescriptor yLw_root.desc).map (fun d => d.parameters.length) = some 4 := by decide +kernel
theorem kt_Lw_root : Cond.static yLw_root ∈ gW := gm 574 (by decide +kernel) (by decide +kernel)
abbrev cNr_root : ByteArray := prog_1_method_9_code
def yNr_root : MethodName := ⟨"NurseryRow", "root", "(II)I"⟩
theorem k_Nr_root : Cond.code yNr_root cNr_root 4 (some .int) ∈ gW := gm 579 (by decide +kernel) (by decide +kernel)
theorem n_Nr_root : yNr_root.cls = "NurseryRow" ∧ yNr_root.cls ≠ "java/lang/invoke/MethodHandle" ∧ yNr_root.cls ≠ "java/lang/invoke/VarHandle" ∧ (parseMethodDescriptor yNr_root.desc).map (fun d => d.parameters.length) = some 2 := by decide +kernel
theorem ki_Nr_root : Cond.instanceMethod yNr_root ∈ gW := gm 577 (by decide +kernel) (by decide +kernel)
theorem ke_Nr_root : Cond.selects "NurseryRow" yNr_root yNr_root ∈ gW := gm 578 (by decide +kernel) (by decide +kernel)
abbrev cNr_isRoot : ByteArray := prog_1_method_19_code
def yNr_isRoot : MethodName := ⟨"NurseryRow", "isRoot", "(I)Z"⟩
theorem k_Nr_isRoot : Cond.code yNr_isRoot cNr_isRoot 1 (some .boolean) ∈ gW := gm 582 (by decide +kernel) (by decide +kernel)
theorem n_Nr_isRoot : yNr_isRoot.cls = "NurseryRow" ∧ yNr_isRoot.cls ≠ "java/lang/invoke/MethodHandle" ∧ yNr_isRoot.cls ≠ "java/lang/invoke/VarHandle" ∧ (parseMethodDescriptor yNr_isRoot.desc).map (fun d => d.parameters.length) = some 1 := by decide +kernel
theorem kt_Nr_isRoot : Cond.static yNr_isRoot ∈ gW := gm 581 (by decide +kernel) (by decide +kernel)
abbrev cLw_rooted : ByteArray := method_11_code
def yLw_rooted : MethodName := ⟨"NurseryRowLaw", "rooted", "(LNurseryRow;I[J)I"⟩
theorem k_Lw_rooted : Cond.codeWith yLw_rooted cLw_rooted 4 (some .int) [(0, 9, 12, 26)] ∈ gW := gm 586 (by decide +kernel) (by decide +kernel)
theorem n_Lw_rooted : yLw_rooted.cls = "NurseryRowLaw" ∧ yLw_rooted.cls ≠ "java/lang/invoke/MethodHandle" ∧ yLw_rooted.cls ≠ "java/lang/invoke/VarHandle" ∧ (parseMethodDescriptor yLw_rooted.desc).map (fun d => d.parameters.length) = some 3 := by decide +kernel
theorem kt_Lw_rooted : Cond.static yLw_rooted ∈ gW := gm 585 (by decide +kernel) (by decide +kernel)
abbrev cNr_rooted : ByteArray := prog_1_method_10_code
def yNr_rooted : MethodName := ⟨"NurseryRow", "rooted", "(I)I"⟩
theorem k_Nr_rooted : Cond.code yNr_rooted cNr_rooted 2 (some .int) ∈ gW := gm 590 (by decide +kernel) (by decide +kernel)
theorem n_Nr_rooted : yNr_rooted.cls = "NurseryRow" ∧ yNr_rooted.cls ≠ "java/lang/invoke/MethodHandle" ∧ yNr_rooted.cls ≠ "java/lang/invoke/VarHandle" ∧ (parseMethodDescriptor yNr_rooted.desc).map (fun d => d.parameters.length) = some 1 := by decide +kernel
theorem ki_Nr_rooted : Cond.instanceMethod yNr_rooted ∈ gW := gm 588 (by decide +kernel) (by decide +kernel)
theorem ke_Nr_rooted : Cond.selects "NurseryRow" yNr_rooted yNr_rooted ∈ gW := gm 589 (by decide +kernel) (by decide +kernel)
abbrev cLw_collect : ByteArray := method_12_code
def yLw_collect : MethodName := ⟨"NurseryRowLaw", "collect", "(LNurseryRow;[J)I"⟩
theorem k_Lw_collect : Cond.codeWith yLw_collect cLw_collect 3 (some .int) [(0, 8, 11, 47)] ∈ gW := gm 594 (by decide +kernel) (by decide +kernel)
theorem n_Lw_collect : yLw_collect.cls = "NurseryRowLaw" ∧ yLw_collect.cls ≠ "java/lang/invoke/MethodHandle" ∧ yLw_collect.cls ≠ "java/lang/invoke/VarHandle" ∧ (parseMethodDescriptor yLw_collect.desc).map (fun d => d.parameters.length) = some 2 := by decide +kernel
theorem kt_Lw_collect : Cond.static yLw_collect ∈ gW := gm 593 (by decide +kernel) (by decide +kernel)
abbrev cNr_collect : ByteArray := prog_1_method_11_code
def yNr_collect : MethodName := ⟨"NurseryRow", "collect", "()I"⟩
theorem k_Nr_collect : Cond.code yNr_collect cNr_collect 4 (some .int) ∈ gW := gm 599 (by decide +kernel) (by decide +kernel)
theorem n_Nr_collect : yNr_collect.cls = "NurseryRow" ∧ yNr_collect.cls ≠ "java/lang/invoke/MethodHandle" ∧ yNr_collect.cls ≠ "java/lang/invoke/VarHandle" ∧ (parseMethodDescriptor yNr_collect.desc).map (fun d => d.parameters.length) = some 0 := by decide +kernel
theorem ki_Nr_collect : Cond.instanceMethod yNr_collect ∈ gW := gm 597 (by decide +kernel) (by decide +kernel)
theorem ke_Nr_collect : Cond.selects "NurseryRow" yNr_collect yNr_collect ∈ gW := gm 598 (by decide +kernel) (by decide +kernel)
abbrev cNr_followRoots : ByteArray := prog_1_method_28_code
def yNr_followRoots : MethodName := ⟨"NurseryRow", "followRoots", "()V"⟩
theorem k_Nr_followRoots : Cond.code yNr_followRoots cNr_followRoots 2 (none : Option Jvm.ClassFile.FieldType) ∈ gW := gm 619 (by decide +kernel) (by decide +kernel)
theorem n_Nr_followRoots : yNr_followRoots.cls = "NurseryRow" ∧ yNr_followRoots.cls ≠ "java/lang/invoke/MethodHandle" ∧ yNr_followRoots.cls ≠ "java/lang/invoke/VarHandle" ∧ (parseMethodDescriptor yNr_followRoots.desc).map (fun d => d.parameters.length) = some 0 := by decide +kernel
theorem ki_Nr_followRoots : Cond.instanceMethod yNr_followRoots ∈ gW := gm 618 (by decide +kernel) (by decide +kernel)
theorem ke_Nr_followRoots : Cond.selects "NurseryRow" yNr_followRoots yNr_followRoots ∈ gW := gm 11 (by decide +kernel) (by decide +kernel)
abbrev cNr_follow : ByteArray := prog_1_method_32_code
def yNr_follow : MethodName := ⟨"NurseryRow", "follow", "(I)I"⟩
theorem k_Nr_follow : Cond.code yNr_follow cNr_follow 2 (some .int) ∈ gW := gm 623 (by decide +kernel) (by decide +kernel)
theorem n_Nr_follow : yNr_follow.cls = "NurseryRow" ∧ yNr_follow.cls ≠ "java/lang/invoke/MethodHandle" ∧ yNr_follow.cls ≠ "java/lang/invoke/VarHandle" ∧ (parseMethodDescriptor yNr_follow.desc).map (fun d => d.parameters.length) = some 1 := by decide +kernel
theorem ki_Nr_follow : Cond.instanceMethod yNr_follow ∈ gW := gm 622 (by decide +kernel) (by decide +kernel)
theorem ke_Nr_follow : Cond.selects "NurseryRow" yNr_follow yNr_follow ∈ gW := gm 12 (by decide +kernel) (by decide +kernel)
abbrev cNr_isYoung : ByteArray := prog_1_method_33_code
def yNr_isYoung : MethodName := ⟨"NurseryRow", "isYoung", "(I)Z"⟩
theorem k_Nr_isYoung : Cond.code yNr_isYoung cNr_isYoung 2 (some .boolean) ∈ gW := gm 627 (by decide +kernel) (by decide +kernel)
theorem n_Nr_isYoung : yNr_isYoung.cls = "NurseryRow" ∧ yNr_isYoung.cls ≠ "java/lang/invoke/MethodHandle" ∧ yNr_isYoung.cls ≠ "java/lang/invoke/VarHandle" ∧ (parseMethodDescriptor yNr_isYoung.desc).map (fun d => d.parameters.length) = some 1 := by decide +kernel
theorem ki_Nr_isYoung : Cond.instanceMethod yNr_isYoung ∈ gW := gm 626 (by decide +kernel) (by decide +kernel)
theorem ke_Nr_isYoung : Cond.selects "NurseryRow" yNr_isYoung yNr_isYoung ∈ gW := gm 13 (by decide +kernel) (by decide +kernel)
abbrev cNr_copyOf : ByteArray := prog_1_method_34_code
def yNr_copyOf : MethodName := ⟨"NurseryRow", "copyOf", "(I)I"⟩
theorem k_Nr_copyOf : Cond.code yNr_copyOf cNr_copyOf 6 (some .int) ∈ gW := gm 631 (by decide +kernel) (by decide +kernel)
theorem n_Nr_copyOf : yNr_copyOf.cls = "NurseryRow" ∧ yNr_copyOf.cls ≠ "java/lang/invoke/MethodHandle" ∧ yNr_copyOf.cls ≠ "java/lang/invoke/VarHandle" ∧ (parseMethodDescriptor yNr_copyOf.desc).map (fun d => d.parameters.length) = some 1 := by decide +kernel
theorem ki_Nr_copyOf : Cond.instanceMethod yNr_copyOf ∈ gW := gm 630 (by decide +kernel) (by decide +kernel)
theorem ke_Nr_copyOf : Cond.selects "NurseryRow" yNr_copyOf yNr_copyOf ∈ gW := gm 14 (by decide +kernel) (by decide +kernel)
abbrev cNr_noteCopy : ByteArray := prog_1_method_35_code
def yNr_noteCopy : MethodName := ⟨"NurseryRow", "noteCopy", "(I)V"⟩
theorem k_Nr_noteCopy : Cond.code yNr_noteCopy cNr_noteCopy 2 (none : Option Jvm.ClassFile.FieldType) ∈ gW := gm 636 (by decide +kernel) (by decide +kernel)
theorem n_Nr_noteCopy : yNr_noteCopy.cls = "NurseryRow" ∧ yNr_noteCopy.cls ≠ "java/lang/invoke/MethodHandle" ∧ yNr_noteCopy.cls ≠ "java/lang/invoke/VarHandle" ∧ (parseMethodDescriptor yNr_noteCopy.desc).map (fun d => d.parameters.length) = some 1 := by decide +kernel
theorem ki_Nr_noteCopy : Cond.instanceMethod yNr_noteCopy ∈ gW := gm 635 (by decide +kernel) (by decide +kernel)
theorem ke_Nr_noteCopy : Cond.selects "NurseryRow" yNr_noteCopy yNr_noteCopy ∈ gW := gm 15 (by decide +kernel) (by decide +kernel)
abbrev cNr_followOld : ByteArray := prog_1_method_29_code
def yNr_followOld : MethodName := ⟨"NurseryRow", "followOld", "(I)V"⟩
theorem k_Nr_followOld : Cond.code yNr_followOld cNr_followOld 4 (none : Option Jvm.ClassFile.FieldType) ∈ gW := gm 640 (by decide +kernel) (by decide +kernel)
theorem n_Nr_followOld : yNr_followOld.cls = "NurseryRow" ∧ yNr_followOld.cls ≠ "java/lang/invoke/MethodHandle" ∧ yNr_followOld.cls ≠ "java/lang/invoke/VarHandle" ∧ (parseMethodDescriptor yNr_followOld.desc).map (fun d => d.parameters.length) = some 1 := by decide +kernel
theorem ki_Nr_followOld : Cond.instanceMethod yNr_followOld ∈ gW := gm 639 (by decide +kernel) (by decide +kernel)
theorem ke_Nr_followOld : Cond.selects "NurseryRow" yNr_followOld yNr_followOld ∈ gW := gm 16 (by decide +kernel) (by decide +kernel)
abbrev cNr_followFields : ByteArray := prog_1_method_31_code
def yNr_followFields : MethodName := ⟨"NurseryRow", "followFields", "(I)V"⟩
theorem k_Nr_followFields : Cond.code yNr_followFields cNr_followFields 4 (none : Option Jvm.ClassFile.FieldType) ∈ gW := gm 644 (by decide +kernel) (by decide +kernel)
theorem n_Nr_followFields : yNr_followFields.cls = "NurseryRow" ∧ yNr_followFields.cls ≠ "java/lang/invoke/MethodHandle" ∧ yNr_followFields.cls ≠ "java/lang/invoke/VarHandle" ∧ (parseMethodDescriptor yNr_followFields.desc).map (fun d => d.parameters.length) = some 1 := by decide +kernel
theorem ki_Nr_followFields : Cond.instanceMethod yNr_followFields ∈ gW := gm 643 (by decide +kernel) (by decide +kernel)
theorem ke_Nr_followFields : Cond.selects "NurseryRow" yNr_followFields yNr_followFields ∈ gW := gm 17 (by decide +kernel) (by decide +kernel)
abbrev cNr_followCopies : ByteArray := prog_1_method_30_code
def yNr_followCopies : MethodName := ⟨"NurseryRow", "followCopies", "()V"⟩
theorem k_Nr_followCopies : Cond.code yNr_followCopies cNr_followCopies 2 (none : Option Jvm.ClassFile.FieldType) ∈ gW := gm 648 (by decide +kernel) (by decide +kernel)
theorem n_Nr_followCopies : yNr_followCopies.cls = "NurseryRow" ∧ yNr_followCopies.cls ≠ "java/lang/invoke/MethodHandle" ∧ yNr_followCopies.cls ≠ "java/lang/invoke/VarHandle" ∧ (parseMethodDescriptor yNr_followCopies.desc).map (fun d => d.parameters.length) = some 0 := by decide +kernel
theorem ki_Nr_followCopies : Cond.instanceMethod yNr_followCopies ∈ gW := gm 647 (by decide +kernel) (by decide +kernel)
theorem ke_Nr_followCopies : Cond.selects "NurseryRow" yNr_followCopies yNr_followCopies ∈ gW := gm 18 (by decide +kernel) (by decide +kernel)
abbrev cLw_about : ByteArray := method_13_code
def yLw_about : MethodName := ⟨"NurseryRowLaw", "about", "(LNurseryRow;II[J)I"⟩
theorem k_Lw_about : Cond.codeWith yLw_about cLw_about 5 (some .int) [(0, 10, 13, 26), (0, 10, 17, 13)] ∈ gW := gm 652 (by decide +kernel) (by decide +kernel)
theorem n_Lw_about : yLw_about.cls = "NurseryRowLaw" ∧ yLw_about.cls ≠ "java/lang/invoke/MethodHandle" ∧ yLw_about.cls ≠ "java/lang/invoke/VarHandle" ∧ (parseMethodDescriptor yLw_about.desc).map (fun d => d.parameters.length) = some 4 := by decide +kernel
theorem kt_Lw_about : Cond.static yLw_about ∈ gW := gm 651 (by decide +kernel) (by decide +kernel)
abbrev cNr_about : ByteArray := prog_1_method_12_code
def yNr_about : MethodName := ⟨"NurseryRow", "about", "(II)I"⟩
theorem k_Nr_about : Cond.code yNr_about cNr_about 3 (some .int) ∈ gW := gm 656 (by decide +kernel) (by decide +kernel)
theorem n_Nr_about : yNr_about.cls = "NurseryRow" ∧ yNr_about.cls ≠ "java/lang/invoke/MethodHandle" ∧ yNr_about.cls ≠ "java/lang/invoke/VarHandle" ∧ (parseMethodDescriptor yNr_about.desc).map (fun d => d.parameters.length) = some 2 := by decide +kernel
theorem ki_Nr_about : Cond.instanceMethod yNr_about ∈ gW := gm 654 (by decide +kernel) (by decide +kernel)
theorem ke_Nr_about : Cond.selects "NurseryRow" yNr_about yNr_about ∈ gW := gm 655 (by decide +kernel) (by decide +kernel)
abbrev cLw_next : ByteArray := method_14_code
def yLw_next : MethodName := ⟨"NurseryRowLaw", "next", "(LNurseryRow;I[J)I"⟩
theorem k_Lw_next : Cond.codeWith yLw_next cLw_next 4 (some .int) [(0, 9, 12, 26)] ∈ gW := gm 660 (by decide +kernel) (by decide +kernel)
theorem n_Lw_next : yLw_next.cls = "NurseryRowLaw" ∧ yLw_next.cls ≠ "java/lang/invoke/MethodHandle" ∧ yLw_next.cls ≠ "java/lang/invoke/VarHandle" ∧ (parseMethodDescriptor yLw_next.desc).map (fun d => d.parameters.length) = some 3 := by decide +kernel
theorem kt_Lw_next : Cond.static yLw_next ∈ gW := gm 659 (by decide +kernel) (by decide +kernel)
abbrev cNr_next : ByteArray := prog_1_method_13_code
def yNr_next : MethodName := ⟨"NurseryRow", "next", "(I)I"⟩
theorem k_Nr_next : Cond.code yNr_next cNr_next 4 (some .int) ∈ gW := gm 664 (by decide +kernel) (by decide +kernel)
theorem n_Nr_next : yNr_next.cls = "NurseryRow" ∧ yNr_next.cls ≠ "java/lang/invoke/MethodHandle" ∧ yNr_next.cls ≠ "java/lang/invoke/VarHandle" ∧ (parseMethodDescriptor yNr_next.desc).map (fun d => d.parameters.length) = some 1 := by decide +kernel
theorem ki_Nr_next : Cond.instanceMethod yNr_next ∈ gW := gm 662 (by decide +kernel) (by decide +kernel)
theorem ke_Nr_next : Cond.selects "NurseryRow" yNr_next yNr_next ∈ gW := gm 663 (by decide +kernel) (by decide +kernel)
abbrev cNr_firstFrom : ByteArray := prog_1_method_23_code
def yNr_firstFrom : MethodName := ⟨"NurseryRow", "firstFrom", "(I)I"⟩
theorem k_Nr_firstFrom : Cond.code yNr_firstFrom cNr_firstFrom 3 (some .int) ∈ gW := gm 668 (by decide +kernel) (by decide +kernel)
theorem n_Nr_firstFrom : yNr_firstFrom.cls = "NurseryRow" ∧ yNr_firstFrom.cls ≠ "java/lang/invoke/MethodHandle" ∧ yNr_firstFrom.cls ≠ "java/lang/invoke/VarHandle" ∧ (parseMethodDescriptor yNr_firstFrom.desc).map (fun d => d.parameters.length) = some 1 := by decide +kernel
theorem ki_Nr_firstFrom : Cond.instanceMethod yNr_firstFrom ∈ gW := gm 667 (by decide +kernel) (by decide +kernel)
theorem ke_Nr_firstFrom : Cond.selects "NurseryRow" yNr_firstFrom yNr_firstFrom ∈ gW := gm 19 (by decide +kernel) (by decide +kernel)
abbrev cLw_count : ByteArray := method_15_code
def yLw_count : MethodName := ⟨"NurseryRowLaw", "count", "(LNurseryRow;I[J)I"⟩
theorem k_Lw_count : Cond.codeWith yLw_count cLw_count 4 (some .int) [(0, 9, 12, 13)] ∈ gW := gm 671 (by decide +kernel) (by decide +kernel)
theorem n_Lw_count : yLw_count.cls = "NurseryRowLaw" ∧ yLw_count.cls ≠ "java/lang/invoke/MethodHandle" ∧ yLw_count.cls ≠ "java/lang/invoke/VarHandle" ∧ (parseMethodDescriptor yLw_count.desc).map (fun d => d.parameters.length) = some 3 := by decide +kernel
theorem kt_Lw_count : Cond.static yLw_count ∈ gW := gm 670 (by decide +kernel) (by decide +kernel)
abbrev cNr_count : ByteArray := prog_1_method_14_code
def yNr_count : MethodName := ⟨"NurseryRow", "count", "(I)I"⟩
theorem k_Nr_count : Cond.code yNr_count cNr_count 2 (some .int) ∈ gW := gm 675 (by decide +kernel) (by decide +kernel)
theorem n_Nr_count : yNr_count.cls = "NurseryRow" ∧ yNr_count.cls ≠ "java/lang/invoke/MethodHandle" ∧ yNr_count.cls ≠ "java/lang/invoke/VarHandle" ∧ (parseMethodDescriptor yNr_count.desc).map (fun d => d.parameters.length) = some 1 := by decide +kernel
theorem ki_Nr_count : Cond.instanceMethod yNr_count ∈ gW := gm 673 (by decide +kernel) (by decide +kernel)
theorem ke_Nr_count : Cond.selects "NurseryRow" yNr_count yNr_count ∈ gW := gm 674 (by decide +kernel) (by decide +kernel)
abbrev cMd_init : ByteArray := prog_4_method_1_code
def yMd_init : MethodName := ⟨"NurseryRowModel", "<init>", "()V"⟩
theorem k_Md_init : Cond.code yMd_init cMd_init 1 (none : Option Jvm.ClassFile.FieldType) ∈ gW := gm 681 (by decide +kernel) (by decide +kernel)
theorem n_Md_init : yMd_init.cls = "NurseryRowModel" ∧ yMd_init.cls ≠ "java/lang/invoke/MethodHandle" ∧ yMd_init.cls ≠ "java/lang/invoke/VarHandle" ∧ (parseMethodDescriptor yMd_init.desc).map (fun d => d.parameters.length) = some 0 := by decide +kernel
theorem ki_Md_init : Cond.instanceMethod yMd_init ∈ gW := gm 680 (by decide +kernel) (by decide +kernel)
abbrev cMd_lay : ByteArray := prog_4_method_4_code
def yMd_lay : MethodName := ⟨"NurseryRowModel", "lay", "(III)V"⟩
theorem k_Md_lay : Cond.code yMd_lay cMd_lay 5 (none : Option Jvm.ClassFile.FieldType) ∈ gW := gm 686 (by decide +kernel) (by decide +kernel)
theorem n_Md_lay : yMd_lay.cls = "NurseryRowModel" ∧ yMd_lay.cls ≠ "java/lang/invoke/MethodHandle" ∧ yMd_lay.cls ≠ "java/lang/invoke/VarHandle" ∧ (parseMethodDescriptor yMd_lay.desc).map (fun d => d.parameters.length) = some 3 := by decide +kernel
theorem ki_Md_lay : Cond.instanceMethod yMd_lay ∈ gW := gm 685 (by decide +kernel) (by decide +kernel)
theorem ke_Md_lay : Cond.selects "NurseryRowModel" yMd_lay yMd_lay ∈ gW := gm 20 (by decide +kernel) (by decide +kernel)
abbrev cMd_thrown : ByteArray := prog_4_method_2_code
def yMd_thrown : MethodName := ⟨"NurseryRowModel", "thrown", "()I"⟩
theorem k_Md_thrown : Cond.code yMd_thrown cMd_thrown 1 (some .int) ∈ gW := gm 767 (by decide +kernel) (by decide +kernel)
theorem n_Md_thrown : yMd_thrown.cls = "NurseryRowModel" ∧ yMd_thrown.cls ≠ "java/lang/invoke/MethodHandle" ∧ yMd_thrown.cls ≠ "java/lang/invoke/VarHandle" ∧ (parseMethodDescriptor yMd_thrown.desc).map (fun d => d.parameters.length) = some 0 := by decide +kernel
theorem ki_Md_thrown : Cond.instanceMethod yMd_thrown ∈ gW := gm 765 (by decide +kernel) (by decide +kernel)
theorem ke_Md_thrown : Cond.selects "NurseryRowModel" yMd_thrown yMd_thrown ∈ gW := gm 766 (by decide +kernel) (by decide +kernel)
abbrev cMd_space : ByteArray := prog_4_method_5_code
def yMd_space : MethodName := ⟨"NurseryRowModel", "space", "(III)I"⟩
theorem k_Md_space : Cond.code yMd_space cMd_space 5 (some .int) ∈ gW := gm 771 (by decide +kernel) (by decide +kernel)
theorem n_Md_space : yMd_space.cls = "NurseryRowModel" ∧ yMd_space.cls ≠ "java/lang/invoke/MethodHandle" ∧ yMd_space.cls ≠ "java/lang/invoke/VarHandle" ∧ (parseMethodDescriptor yMd_space.desc).map (fun d => d.parameters.length) = some 3 := by decide +kernel
theorem ki_Md_space : Cond.instanceMethod yMd_space ∈ gW := gm 769 (by decide +kernel) (by decide +kernel)
theorem ke_Md_space : Cond.selects "NurseryRowModel" yMd_space yMd_space ∈ gW := gm 770 (by decide +kernel) (by decide +kernel)
abbrev cMd_goes : ByteArray := prog_4_method_3_code
def yMd_goes : MethodName := ⟨"NurseryRowModel", "goes", "(ZZ)Z"⟩
theorem k_Md_goes : Cond.code yMd_goes cMd_goes 3 (some .boolean) ∈ gW := gm 775 (by decide +kernel) (by decide +kernel)
theorem n_Md_goes : yMd_goes.cls = "NurseryRowModel" ∧ yMd_goes.cls ≠ "java/lang/invoke/MethodHandle" ∧ yMd_goes.cls ≠ "java/lang/invoke/VarHandle" ∧ (parseMethodDescriptor yMd_goes.desc).map (fun d => d.parameters.length) = some 2 := by decide +kernel
theorem ki_Md_goes : Cond.instanceMethod yMd_goes ∈ gW := gm 774 (by decide +kernel) (by decide +kernel)
theorem ke_Md_goes : Cond.selects "NurseryRowModel" yMd_goes yMd_goes ∈ gW := gm 21 (by decide +kernel) (by decide +kernel)
abbrev cMd_limit : ByteArray := prog_4_method_6_code
def yMd_limit : MethodName := ⟨"NurseryRowModel", "limit", "(I)I"⟩
theorem k_Md_limit : Cond.code yMd_limit cMd_limit 3 (some .int) ∈ gW := gm 779 (by decide +kernel) (by decide +kernel)
theorem n_Md_limit : yMd_limit.cls = "NurseryRowModel" ∧ yMd_limit.cls ≠ "java/lang/invoke/MethodHandle" ∧ yMd_limit.cls ≠ "java/lang/invoke/VarHandle" ∧ (parseMethodDescriptor yMd_limit.desc).map (fun d => d.parameters.length) = some 1 := by decide +kernel
theorem ki_Md_limit : Cond.instanceMethod yMd_limit ∈ gW := gm 777 (by decide +kernel) (by decide +kernel)
theorem ke_Md_limit : Cond.selects "NurseryRowModel" yMd_limit yMd_limit ∈ gW := gm 778 (by decide +kernel) (by decide +kernel)
abbrev cMd_make : ByteArray := prog_4_method_9_code
def yMd_make : MethodName := ⟨"NurseryRowModel", "make", "(II)I"⟩
theorem k_Md_make : Cond.code yMd_make cMd_make 6 (some .int) ∈ gW := gm 783 (by decide +kernel) (by decide +kernel)
theorem n_Md_make : yMd_make.cls = "NurseryRowModel" ∧ yMd_make.cls ≠ "java/lang/invoke/MethodHandle" ∧ yMd_make.cls ≠ "java/lang/invoke/VarHandle" ∧ (parseMethodDescriptor yMd_make.desc).map (fun d => d.parameters.length) = some 2 := by decide +kernel
theorem ki_Md_make : Cond.instanceMethod yMd_make ∈ gW := gm 781 (by decide +kernel) (by decide +kernel)
theorem ke_Md_make : Cond.selects "NurseryRowModel" yMd_make yMd_make ∈ gW := gm 782 (by decide +kernel) (by decide +kernel)
abbrev cMd_freeNumber : ByteArray := prog_4_method_8_code
def yMd_freeNumber : MethodName := ⟨"NurseryRowModel", "freeNumber", "()I"⟩
theorem k_Md_freeNumber : Cond.code yMd_freeNumber cMd_freeNumber 2 (some .int) ∈ gW := gm 787 (by decide +kernel) (by decide +kernel)
theorem n_Md_freeNumber : yMd_freeNumber.cls = "NurseryRowModel" ∧ yMd_freeNumber.cls ≠ "java/lang/invoke/MethodHandle" ∧ yMd_freeNumber.cls ≠ "java/lang/invoke/VarHandle" ∧ (parseMethodDescriptor yMd_freeNumber.desc).map (fun d => d.parameters.length) = some 0 := by decide +kernel
theorem ki_Md_freeNumber : Cond.instanceMethod yMd_freeNumber ∈ gW := gm 786 (by decide +kernel) (by decide +kernel)
theorem ke_Md_freeNumber : Cond.selects "NurseryRowModel" yMd_freeNumber yMd_freeNumber ∈ gW := gm 22 (by decide +kernel) (by decide +kernel)
abbrev cMd_set : ByteArray := prog_4_method_14_code
def yMd_set : MethodName := ⟨"NurseryRowModel", "set", "(III)I"⟩
theorem k_Md_set : Cond.code yMd_set cMd_set 7 (some .int) ∈ gW := gm 791 (by decide +kernel) (by decide +kernel)
theorem n_Md_set : yMd_set.cls = "NurseryRowModel" ∧ yMd_set.cls ≠ "java/lang/invoke/MethodHandle" ∧ yMd_set.cls ≠ "java/lang/invoke/VarHandle" ∧ (parseMethodDescriptor yMd_set.desc).map (fun d => d.parameters.length) = some 3 := by decide +kernel
theorem ki_Md_set : Cond.instanceMethod yMd_set ∈ gW := gm 789 (by decide +kernel) (by decide +kernel)
theorem ke_Md_set : Cond.selects "NurseryRowModel" yMd_set yMd_set ∈ gW := gm 790 (by decide +kernel) (by decide +kernel)
abbrev cMd_field : ByteArray := prog_4_method_12_code
def yMd_field : MethodName := ⟨"NurseryRowModel", "field", "(II)I"⟩
theorem k_Md_field : Cond.code yMd_field cMd_field 4 (some .int) ∈ gW := gm 795 (by decide +kernel) (by decide +kernel)
theorem n_Md_field : yMd_field.cls = "NurseryRowModel" ∧ yMd_field.cls ≠ "java/lang/invoke/MethodHandle" ∧ yMd_field.cls ≠ "java/lang/invoke/VarHandle" ∧ (parseMethodDescriptor yMd_field.desc).map (fun d => d.parameters.length) = some 2 := by decide +kernel
theorem ki_Md_field : Cond.instanceMethod yMd_field ∈ gW := gm 794 (by decide +kernel) (by decide +kernel)
theorem ke_Md_field : Cond.selects "NurseryRowModel" yMd_field yMd_field ∈ gW := gm 23 (by decide +kernel) (by decide +kernel)
abbrev cMd_object : ByteArray := prog_4_method_10_code
def yMd_object : MethodName := ⟨"NurseryRowModel", "object", "(I)I"⟩
theorem k_Md_object : Cond.code yMd_object cMd_object 3 (some .int) ∈ gW := gm 799 (by decide +kernel) (by decide +kernel)
theorem n_Md_object : yMd_object.cls = "NurseryRowModel" ∧ yMd_object.cls ≠ "java/lang/invoke/MethodHandle" ∧ yMd_object.cls ≠ "java/lang/invoke/VarHandle" ∧ (parseMethodDescriptor yMd_object.desc).map (fun d => d.parameters.length) = some 1 := by decide +kernel
theorem ki_Md_object : Cond.instanceMethod yMd_object ∈ gW := gm 798 (by decide +kernel) (by decide +kernel)
theorem ke_Md_object : Cond.selects "NurseryRowModel" yMd_object yMd_object ∈ gW := gm 24 (by decide +kernel) (by decide +kernel)
abbrev cMd_told : ByteArray := prog_4_method_11_code
def yMd_told : MethodName := ⟨"NurseryRowModel", "told", "(I)I"⟩
theorem k_Md_told : Cond.code yMd_told cMd_told 2 (some .int) ∈ gW := gm 803 (by decide +kernel) (by decide +kernel)
theorem n_Md_told : yMd_told.cls = "NurseryRowModel" ∧ yMd_told.cls ≠ "java/lang/invoke/MethodHandle" ∧ yMd_told.cls ≠ "java/lang/invoke/VarHandle" ∧ (parseMethodDescriptor yMd_told.desc).map (fun d => d.parameters.length) = some 1 := by decide +kernel
theorem ki_Md_told : Cond.instanceMethod yMd_told ∈ gW := gm 802 (by decide +kernel) (by decide +kernel)
theorem ke_Md_told : Cond.selects "NurseryRowModel" yMd_told yMd_told ∈ gW := gm 25 (by decide +kernel) (by decide +kernel)
abbrev cMd_get : ByteArray := prog_4_method_15_code
def yMd_get : MethodName := ⟨"NurseryRowModel", "get", "(II)I"⟩
theorem k_Md_get : Cond.code yMd_get cMd_get 4 (some .int) ∈ gW := gm 807 (by decide +kernel) (by decide +kernel)
theorem n_Md_get : yMd_get.cls = "NurseryRowModel" ∧ yMd_get.cls ≠ "java/lang/invoke/MethodHandle" ∧ yMd_get.cls ≠ "java/lang/invoke/VarHandle" ∧ (parseMethodDescriptor yMd_get.desc).map (fun d => d.parameters.length) = some 2 := by decide +kernel
theorem ki_Md_get : Cond.instanceMethod yMd_get ∈ gW := gm 805 (by decide +kernel) (by decide +kernel)
theorem ke_Md_get : Cond.selects "NurseryRowModel" yMd_get yMd_get ∈ gW := gm 806 (by decide +kernel) (by decide +kernel)
abbrev cMd_put : ByteArray := prog_4_method_16_code
def yMd_put : MethodName := ⟨"NurseryRowModel", "put", "(III)I"⟩
theorem k_Md_put : Cond.code yMd_put cMd_put 6 (some .int) ∈ gW := gm 811 (by decide +kernel) (by decide +kernel)
theorem n_Md_put : yMd_put.cls = "NurseryRowModel" ∧ yMd_put.cls ≠ "java/lang/invoke/MethodHandle" ∧ yMd_put.cls ≠ "java/lang/invoke/VarHandle" ∧ (parseMethodDescriptor yMd_put.desc).map (fun d => d.parameters.length) = some 3 := by decide +kernel
theorem ki_Md_put : Cond.instanceMethod yMd_put ∈ gW := gm 809 (by decide +kernel) (by decide +kernel)
theorem ke_Md_put : Cond.selects "NurseryRowModel" yMd_put yMd_put ∈ gW := gm 810 (by decide +kernel) (by decide +kernel)
abbrev cMd_place : ByteArray := prog_4_method_13_code
def yMd_place : MethodName := ⟨"NurseryRowModel", "place", "(II)I"⟩
theorem k_Md_place : Cond.code yMd_place cMd_place 4 (some .int) ∈ gW := gm 815 (by decide +kernel) (by decide +kernel)
theorem n_Md_place : yMd_place.cls = "NurseryRowModel" ∧ yMd_place.cls ≠ "java/lang/invoke/MethodHandle" ∧ yMd_place.cls ≠ "java/lang/invoke/VarHandle" ∧ (parseMethodDescriptor yMd_place.desc).map (fun d => d.parameters.length) = some 2 := by decide +kernel
theorem ki_Md_place : Cond.instanceMethod yMd_place ∈ gW := gm 814 (by decide +kernel) (by decide +kernel)
theorem ke_Md_place : Cond.selects "NurseryRowModel" yMd_place yMd_place ∈ gW := gm 26 (by decide +kernel) (by decide +kernel)
abbrev cMd_word : ByteArray := prog_4_method_17_code
def yMd_word : MethodName := ⟨"NurseryRowModel", "word", "(II)I"⟩
theorem k_Md_word : Cond.code yMd_word cMd_word 4 (some .int) ∈ gW := gm 819 (by decide +kernel) (by decide +kernel)
theorem n_Md_word : yMd_word.cls = "NurseryRowModel" ∧ yMd_word.cls ≠ "java/lang/invoke/MethodHandle" ∧ yMd_word.cls ≠ "java/lang/invoke/VarHandle" ∧ (parseMethodDescriptor yMd_word.desc).map (fun d => d.parameters.length) = some 2 := by decide +kernel
theorem ki_Md_word : Cond.instanceMethod yMd_word ∈ gW := gm 817 (by decide +kernel) (by decide +kernel)
theorem ke_Md_word : Cond.selects "NurseryRowModel" yMd_word yMd_word ∈ gW := gm 818 (by decide +kernel) (by decide +kernel)
abbrev cMd_root : ByteArray := prog_4_method_18_code
def yMd_root : MethodName := ⟨"NurseryRowModel", "root", "(II)I"⟩
theorem k_Md_root : Cond.code yMd_root cMd_root 5 (some .int) ∈ gW := gm 823 (by decide +kernel) (by decide +kernel)
theorem n_Md_root : yMd_root.cls = "NurseryRowModel" ∧ yMd_root.cls ≠ "java/lang/invoke/MethodHandle" ∧ yMd_root.cls ≠ "java/lang/invoke/VarHandle" ∧ (parseMethodDescriptor yMd_root.desc).map (fun d => d.parameters.length) = some 2 := by decide +kernel
theorem ki_Md_root : Cond.instanceMethod yMd_root ∈ gW := gm 821 (by decide +kernel) (by decide +kernel)
theorem ke_Md_root : Cond.selects "NurseryRowModel" yMd_root yMd_root ∈ gW := gm 822 (by decide +kernel) (by decide +kernel)
abbrev cMd_rooted : ByteArray := prog_4_method_19_code
def yMd_rooted : MethodName := ⟨"NurseryRowModel", "rooted", "(I)I"⟩
theorem k_Md_rooted : Cond.code yMd_rooted cMd_rooted 2 (some .int) ∈ gW := gm 827 (by decide +kernel) (by decide +kernel)
theorem n_Md_rooted : yMd_rooted.cls = "NurseryRowModel" ∧ yMd_rooted.cls ≠ "java/lang/invoke/MethodHandle" ∧ yMd_rooted.cls ≠ "java/lang/invoke/VarHandle" ∧ (parseMethodDescriptor yMd_rooted.desc).map (fun d => d.parameters.length) = some 1 := by decide +kernel
theorem ki_Md_rooted : Cond.instanceMethod yMd_rooted ∈ gW := gm 825 (by decide +kernel) (by decide +kernel)
theorem ke_Md_rooted : Cond.selects "NurseryRowModel" yMd_rooted yMd_rooted ∈ gW := gm 826 (by decide +kernel) (by decide +kernel)
abbrev cMd_collect : ByteArray := prog_4_method_23_code
def yMd_collect : MethodName := ⟨"NurseryRowModel", "collect", "()I"⟩
theorem k_Md_collect : Cond.code yMd_collect cMd_collect 3 (some .int) ∈ gW := gm 831 (by decide +kernel) (by decide +kernel)
theorem n_Md_collect : yMd_collect.cls = "NurseryRowModel" ∧ yMd_collect.cls ≠ "java/lang/invoke/MethodHandle" ∧ yMd_collect.cls ≠ "java/lang/invoke/VarHandle" ∧ (parseMethodDescriptor yMd_collect.desc).map (fun d => d.parameters.length) = some 0 := by decide +kernel
theorem ki_Md_collect : Cond.instanceMethod yMd_collect ∈ gW := gm 829 (by decide +kernel) (by decide +kernel)
theorem ke_Md_collect : Cond.selects "NurseryRowModel" yMd_collect yMd_collect ∈ gW := gm 830 (by decide +kernel) (by decide +kernel)
abbrev cMd_find : ByteArray := prog_4_method_20_code
def yMd_find : MethodName := ⟨"NurseryRowModel", "find", "(I)V"⟩
theorem k_Md_find : Cond.code yMd_find cMd_find 6 (none : Option Jvm.ClassFile.FieldType) ∈ gW := gm 835 (by decide +kernel) (by decide +kernel)
theorem n_Md_find : yMd_find.cls = "NurseryRowModel" ∧ yMd_find.cls ≠ "java/lang/invoke/MethodHandle" ∧ yMd_find.cls ≠ "java/lang/invoke/VarHandle" ∧ (parseMethodDescriptor yMd_find.desc).map (fun d => d.parameters.length) = some 1 := by decide +kernel
theorem ki_Md_find : Cond.instanceMethod yMd_find ∈ gW := gm 834 (by decide +kernel) (by decide +kernel)
theorem ke_Md_find : Cond.selects "NurseryRowModel" yMd_find yMd_find ∈ gW := gm 27 (by decide +kernel) (by decide +kernel)
abbrev cMd_size : ByteArray := prog_4_method_7_code
def yMd_size : MethodName := ⟨"NurseryRowModel", "size", "(I)I"⟩
theorem k_Md_size : Cond.code yMd_size cMd_size 2 (some .int) ∈ gW := gm 839 (by decide +kernel) (by decide +kernel)
theorem n_Md_size : yMd_size.cls = "NurseryRowModel" ∧ yMd_size.cls ≠ "java/lang/invoke/MethodHandle" ∧ yMd_size.cls ≠ "java/lang/invoke/VarHandle" ∧ (parseMethodDescriptor yMd_size.desc).map (fun d => d.parameters.length) = some 1 := by decide +kernel
theorem ki_Md_size : Cond.instanceMethod yMd_size ∈ gW := gm 838 (by decide +kernel) (by decide +kernel)
theorem ke_Md_size : Cond.selects "NurseryRowModel" yMd_size yMd_size ∈ gW := gm 28 (by decide +kernel) (by decide +kernel)
abbrev cMd_findFields : ByteArray := prog_4_method_21_code
def yMd_findFields : MethodName := ⟨"NurseryRowModel", "findFields", "(I)V"⟩
theorem k_Md_findFields : Cond.code yMd_findFields cMd_findFields 3 (none : Option Jvm.ClassFile.FieldType) ∈ gW := gm 843 (by decide +kernel) (by decide +kernel)
theorem n_Md_findFields : yMd_findFields.cls = "NurseryRowModel" ∧ yMd_findFields.cls ≠ "java/lang/invoke/MethodHandle" ∧ yMd_findFields.cls ≠ "java/lang/invoke/VarHandle" ∧ (parseMethodDescriptor yMd_findFields.desc).map (fun d => d.parameters.length) = some 1 := by decide +kernel
theorem ki_Md_findFields : Cond.instanceMethod yMd_findFields ∈ gW := gm 842 (by decide +kernel) (by decide +kernel)
theorem ke_Md_findFields : Cond.selects "NurseryRowModel" yMd_findFields yMd_findFields ∈ gW := gm 29 (by decide +kernel) (by decide +kernel)
abbrev cMd_tidy : ByteArray := prog_4_method_22_code
def yMd_tidy : MethodName := ⟨"NurseryRowModel", "tidy", "()V"⟩
theorem k_Md_tidy : Cond.code yMd_tidy cMd_tidy 5 (none : Option Jvm.ClassFile.FieldType) ∈ gW := gm 847 (by decide +kernel) (by decide +kernel)
theorem n_Md_tidy : yMd_tidy.cls = "NurseryRowModel" ∧ yMd_tidy.cls ≠ "java/lang/invoke/MethodHandle" ∧ yMd_tidy.cls ≠ "java/lang/invoke/VarHandle" ∧ (parseMethodDescriptor yMd_tidy.desc).map (fun d => d.parameters.length) = some 0 := by decide +kernel
theorem ki_Md_tidy : Cond.instanceMethod yMd_tidy ∈ gW := gm 846 (by decide +kernel) (by decide +kernel)
theorem ke_Md_tidy : Cond.selects "NurseryRowModel" yMd_tidy yMd_tidy ∈ gW := gm 30 (by decide +kernel) (by decide +kernel)
abbrev cMd_about : ByteArray := prog_4_method_24_code
def yMd_about : MethodName := ⟨"NurseryRowModel", "about", "(II)I"⟩
theorem k_Md_about : Cond.code yMd_about cMd_about 4 (some .int) ∈ gW := gm 851 (by decide +kernel) (by decide +kernel)
theorem n_Md_about : yMd_about.cls = "NurseryRowModel" ∧ yMd_about.cls ≠ "java/lang/invoke/MethodHandle" ∧ yMd_about.cls ≠ "java/lang/invoke/VarHandle" ∧ (parseMethodDescriptor yMd_about.desc).map (fun d => d.parameters.length) = some 2 := by decide +kernel
theorem ki_Md_about : Cond.instanceMethod yMd_about ∈ gW := gm 849 (by decide +kernel) (by decide +kernel)
theorem ke_Md_about : Cond.selects "NurseryRowModel" yMd_about yMd_about ∈ gW := gm 850 (by decide +kernel) (by decide +kernel)
abbrev cMd_next : ByteArray := prog_4_method_25_code
def yMd_next : MethodName := ⟨"NurseryRowModel", "next", "(I)I"⟩
theorem k_Md_next : Cond.code yMd_next cMd_next 5 (some .int) ∈ gW := gm 855 (by decide +kernel) (by decide +kernel)
theorem n_Md_next : yMd_next.cls = "NurseryRowModel" ∧ yMd_next.cls ≠ "java/lang/invoke/MethodHandle" ∧ yMd_next.cls ≠ "java/lang/invoke/VarHandle" ∧ (parseMethodDescriptor yMd_next.desc).map (fun d => d.parameters.length) = some 1 := by decide +kernel
theorem ki_Md_next : Cond.instanceMethod yMd_next ∈ gW := gm 853 (by decide +kernel) (by decide +kernel)
theorem ke_Md_next : Cond.selects "NurseryRowModel" yMd_next yMd_next ∈ gW := gm 854 (by decide +kernel) (by decide +kernel)
abbrev cMd_count : ByteArray := prog_4_method_27_code
def yMd_count : MethodName := ⟨"NurseryRowModel", "count", "(I)I"⟩
theorem k_Md_count : Cond.code yMd_count cMd_count 2 (some .int) ∈ gW := gm 859 (by decide +kernel) (by decide +kernel)
theorem n_Md_count : yMd_count.cls = "NurseryRowModel" ∧ yMd_count.cls ≠ "java/lang/invoke/MethodHandle" ∧ yMd_count.cls ≠ "java/lang/invoke/VarHandle" ∧ (parseMethodDescriptor yMd_count.desc).map (fun d => d.parameters.length) = some 1 := by decide +kernel
theorem ki_Md_count : Cond.instanceMethod yMd_count ∈ gW := gm 857 (by decide +kernel) (by decide +kernel)
theorem ke_Md_count : Cond.selects "NurseryRowModel" yMd_count yMd_count ∈ gW := gm 858 (by decide +kernel) (by decide +kernel)
abbrev cMd_many : ByteArray := prog_4_method_26_code
def yMd_many : MethodName := ⟨"NurseryRowModel", "many", "(I)I"⟩
theorem k_Md_many : Cond.code yMd_many cMd_many 4 (some .int) ∈ gW := gm 863 (by decide +kernel) (by decide +kernel)
theorem n_Md_many : yMd_many.cls = "NurseryRowModel" ∧ yMd_many.cls ≠ "java/lang/invoke/MethodHandle" ∧ yMd_many.cls ≠ "java/lang/invoke/VarHandle" ∧ (parseMethodDescriptor yMd_many.desc).map (fun d => d.parameters.length) = some 1 := by decide +kernel
theorem ki_Md_many : Cond.instanceMethod yMd_many ∈ gW := gm 862 (by decide +kernel) (by decide +kernel)
theorem ke_Md_many : Cond.selects "NurseryRowModel" yMd_many yMd_many ∈ gW := gm 31 (by decide +kernel) (by decide +kernel)
theorem z_Lw : Cond.initialized "NurseryRowLaw" ∈ gW := gm 32 (by decide +kernel) (by decide +kernel)
theorem z_Nr : Cond.initialized "NurseryRow" ∈ gW := gm 33 (by decide +kernel) (by decide +kernel)
theorem z_Pt : Cond.initialized "NurseryRow$Part" ∈ gW := gm 34 (by decide +kernel) (by decide +kernel)
theorem z_Md : Cond.initialized "NurseryRowModel" ∈ gW := gm 35 (by decide +kernel) (by decide +kernel)
theorem z_Throwable : Cond.initialized "java/lang/Throwable" ∈ gW := gm 36 (by decide +kernel) (by decide +kernel)
theorem z_Exception : Cond.initialized "java/lang/Exception" ∈ gW := gm 37 (by decide +kernel) (by decide +kernel)
theorem z_RuntimeException : Cond.initialized "java/lang/RuntimeException" ∈ gW := gm 38 (by decide +kernel) (by decide +kernel)
theorem z_IllegalArgumentException : Cond.initialized "java/lang/IllegalArgumentException" ∈ gW := gm 39 (by decide +kernel) (by decide +kernel)
theorem z_Ar : Cond.initialized "java/util/Arrays" ∈ gW := gm 40 (by decide +kernel) (by decide +kernel)
theorem z_AbstractStringBuilder : Cond.initialized "java/lang/AbstractStringBuilder" ∈ gW := gm 41 (by decide +kernel) (by decide +kernel)
theorem z_StringBuilder : Cond.initialized "java/lang/StringBuilder" ∈ gW := gm 42 (by decide +kernel) (by decide +kernel)
theorem z_String : Cond.initialized "java/lang/String" ∈ gW := gm 43 (by decide +kernel) (by decide +kernel)
theorem z_StringUTF16 : Cond.initialized "java/lang/StringUTF16" ∈ gW := gm 44 (by decide +kernel) (by decide +kernel)
theorem z_ArraysSupport : Cond.initialized "jdk/internal/util/ArraysSupport" ∈ gW := gm 45 (by decide +kernel) (by decide +kernel)
theorem z_Math : Cond.initialized "java/lang/Math" ∈ gW := gm 46 (by decide +kernel) (by decide +kernel)
theorem z_System : Cond.initialized "java/lang/System" ∈ gW := gm 47 (by decide +kernel) (by decide +kernel)
theorem z_Preconditions : Cond.initialized "jdk/internal/util/Preconditions" ∈ gW := gm 48 (by decide +kernel) (by decide +kernel)
theorem z_StringLatin1 : Cond.initialized "java/lang/StringLatin1" ∈ gW := gm 49 (by decide +kernel) (by decide +kernel)
theorem z_Integer : Cond.initialized "java/lang/Integer" ∈ gW := gm 50 (by decide +kernel) (by decide +kernel)
theorem z_NoSuchElementException : Cond.initialized "java/util/NoSuchElementException" ∈ gW := gm 51 (by decide +kernel) (by decide +kernel)
theorem z_IllegalStateException : Cond.initialized "java/lang/IllegalStateException" ∈ gW := gm 52 (by decide +kernel) (by decide +kernel)
theorem kl_Lw_8 : Cond.classLink "NurseryRowLaw" 8 "NurseryRow" ∈ gW := gm 53 (by decide +kernel) (by decide +kernel)
theorem kn_Nr : Cond.instantiable "NurseryRow" 10 ∈ gW := gm 54 (by decide +kernel) (by decide +kernel)
theorem l_Lw_58 : Cond.methodLink "NurseryRowLaw" 58 yNr_init ∈ gW := gm 55 (by decide +kernel) (by decide +kernel)
theorem l_Nr_3 : Cond.methodLink "NurseryRow" 3 objectInit ∈ gW := gm 58 (by decide +kernel) (by decide +kernel)
theorem kl_Nr_9 : Cond.classLink "NurseryRow" 9 "NurseryRow$Part" ∈ gW := gm 61 (by decide +kernel) (by decide +kernel)
theorem kn_Pt : Cond.instantiable "NurseryRow$Part" 4 ∈ gW := gm 63 (by decide +kernel) (by decide +kernel)
theorem l_Pt_1 : Cond.methodLink "NurseryRow$Part" 1 objectInit ∈ gW := gm 67 (by decide +kernel) (by decide +kernel)
theorem f_Pt_7 : Cond.fieldLink "NurseryRow$Part" 7 "NurseryRow$Part" "first" "I" ∈ gW := gm 68 (by decide +kernel) (by decide +kernel)
theorem f_Nr_164 : Cond.fieldLink "NurseryRow" 164 "NurseryRow$Part" "first" "I" ∈ gW := gm 69 (by decide +kernel) (by decide +kernel)
theorem f_Pt_13 : Cond.fieldLink "NurseryRow$Part" 13 "NurseryRow$Part" "cells" "I" ∈ gW := gm 70 (by decide +kernel) (by decide +kernel)
theorem f_Nr_162 : Cond.fieldLink "NurseryRow" 162 "NurseryRow$Part" "cells" "I" ∈ gW := gm 71 (by decide +kernel) (by decide +kernel)
theorem f_Pt_19 : Cond.fieldLink "NurseryRow$Part" 19 "NurseryRow$Part" "used" "I" ∈ gW := gm 72 (by decide +kernel) (by decide +kernel)
theorem f_Nr_112 : Cond.fieldLink "NurseryRow" 112 "NurseryRow$Part" "used" "I" ∈ gW := gm 73 (by decide +kernel) (by decide +kernel)
theorem f_Pt_22 : Cond.fieldLink "NurseryRow$Part" 22 "NurseryRow$Part" "objects" "I" ∈ gW := gm 74 (by decide +kernel) (by decide +kernel)
theorem f_Nr_120 : Cond.fieldLink "NurseryRow" 120 "NurseryRow$Part" "objects" "I" ∈ gW := gm 75 (by decide +kernel) (by decide +kernel)
theorem l_Nr_30 : Cond.methodLink "NurseryRow" 30 yNr_layParts ∈ gW := gm 85 (by decide +kernel) (by decide +kernel)
theorem l_Nr_158 : Cond.methodLink "NurseryRow" 158 yPt_lay ∈ gW := gm 89 (by decide +kernel) (by decide +kernel)
theorem l_Pt_16 : Cond.methodLink "NurseryRow$Part" 16 yPt_empty ∈ gW := gm 93 (by decide +kernel) (by decide +kernel)
theorem f_Nr_11 : Cond.fieldLink "NurseryRow" 11 "NurseryRow" "parts" "[LNurseryRow$Part;" ∈ gW := gm 97 (by decide +kernel) (by decide +kernel)
theorem f_Nr_16 : Cond.fieldLink "NurseryRow" 16 "NurseryRow" "roots" "[I" ∈ gW := gm 98 (by decide +kernel) (by decide +kernel)
theorem f_Nr_20 : Cond.fieldLink "NurseryRow" 20 "NurseryRow" "copies" "[I" ∈ gW := gm 99 (by decide +kernel) (by decide +kernel)
theorem f_Nr_23 : Cond.fieldLink "NurseryRow" 23 "NurseryRow" "cells" "[I" ∈ gW := gm 100 (by decide +kernel) (by decide +kernel)
theorem f_Nr_123 : Cond.fieldLink "NurseryRow" 123 "NurseryRow" "copied" "I" ∈ gW := gm 101 (by decide +kernel) (by decide +kernel)
theorem f_Nr_26 : Cond.fieldLink "NurseryRow" 26 "NurseryRow" "ageLimit" "I" ∈ gW := gm 102 (by decide +kernel) (by decide +kernel)
theorem f_Nr_58 : Cond.fieldLink "NurseryRow" 58 "NurseryRow" "rowInUse" "I" ∈ gW := gm 103 (by decide +kernel) (by decide +kernel)
theorem f_Nr_61 : Cond.fieldLink "NurseryRow" 61 "NurseryRow" "collections" "I" ∈ gW := gm 104 (by decide +kernel) (by decide +kernel)
theorem f_Nr_64 : Cond.fieldLink "NurseryRow" 64 "NurseryRow" "copiesInRows" "I" ∈ gW := gm 105 (by decide +kernel) (by decide +kernel)
theorem f_Nr_67 : Cond.fieldLink "NurseryRow" 67 "NurseryRow" "copiesInOld" "I" ∈ gW := gm 106 (by decide +kernel) (by decide +kernel)
theorem l_Lw_62 : Cond.methodLink "NurseryRowLaw" 62 yLw_space ∈ gW := gm 129 (by decide +kernel) (by decide +kernel)
theorem kl_Lw_13 : Cond.classLink "NurseryRowLaw" 13 "java/lang/IllegalArgumentException" ∈ gW := gm 132 (by decide +kernel) (by decide +kernel)
theorem l_Lw_7 : Cond.methodLink "NurseryRowLaw" 7 yNr_space ∈ gW := gm 133 (by decide +kernel) (by decide +kernel)
theorem l_Nr_34 : Cond.methodLink "NurseryRow" 34 yNr_isWithin ∈ gW := gm 137 (by decide +kernel) (by decide +kernel)
theorem kl_Nr_38 : Cond.classLink "NurseryRow" 38 "java/lang/IllegalArgumentException" ∈ gW := gm 140 (by decide +kernel) (by decide +kernel)
theorem l_Nr_45 : Cond.methodLink "NurseryRow" 45 yNr_allCells ∈ gW := gm 208 (by decide +kernel) (by decide +kernel)
theorem l_Nr_49 : Cond.methodLink "NurseryRow" 49 yNr_growCells ∈ gW := gm 212 (by decide +kernel) (by decide +kernel)
theorem l_Nr_52 : Cond.methodLink "NurseryRow" 52 yAr_fill2 ∈ gW := gm 216 (by decide +kernel) (by decide +kernel)
theorem l_Lw_71 : Cond.methodLink "NurseryRowLaw" 71 yLw_limit ∈ gW := gm 219 (by decide +kernel) (by decide +kernel)
theorem l_Lw_15 : Cond.methodLink "NurseryRowLaw" 15 yNr_limit ∈ gW := gm 222 (by decide +kernel) (by decide +kernel)
theorem l_Lw_75 : Cond.methodLink "NurseryRowLaw" 75 yLw_make ∈ gW := gm 227 (by decide +kernel) (by decide +kernel)
theorem l_Lw_19 : Cond.methodLink "NurseryRowLaw" 19 yNr_make ∈ gW := gm 230 (by decide +kernel) (by decide +kernel)
theorem l_Nr_74 : Cond.methodLink "NurseryRow" 74 yPt_free ∈ gW := gm 235 (by decide +kernel) (by decide +kernel)
theorem l_Nr_77 : Cond.methodLink "NurseryRow" 77 yPt_take ∈ gW := gm 239 (by decide +kernel) (by decide +kernel)
theorem l_Pt_25 : Cond.methodLink "NurseryRow$Part" 25 yPt_end ∈ gW := gm 243 (by decide +kernel) (by decide +kernel)
theorem l_Nr_81 : Cond.methodLink "NurseryRow" 81 yAr_fill4 ∈ gW := gm 247 (by decide +kernel) (by decide +kernel)
theorem l_Ar_13 : Cond.methodLink "java/util/Arrays" 13 yAr_rangeCheck ∈ gW := gm 250 (by decide +kernel) (by decide +kernel)
theorem kl_Ar_43 : Cond.classLink "java/util/Arrays" 43 "java/lang/IllegalArgumentException" ∈ gW := gm 253 (by decide +kernel) (by decide +kernel)
theorem kl_Ar_45 : Cond.classLink "java/util/Arrays" 45 "java/lang/StringBuilder" ∈ gW := gm 254 (by decide +kernel) (by decide +kernel)
theorem kl_Ar_311 : Cond.classLink "java/util/Arrays" 311 "[B" ∈ gW := gm 325 (by decide +kernel) (by decide +kernel)
theorem l_Ar_150 : Cond.methodLink "java/util/Arrays" 150 arraycopyName ∈ gW := gm 329 (by decide +kernel) (by decide +kernel)
theorem l_Lw_79 : Cond.methodLink "NurseryRowLaw" 79 yLw_set ∈ gW := gm 495 (by decide +kernel) (by decide +kernel)
theorem kl_Lw_26 : Cond.classLink "NurseryRowLaw" 26 "java/util/NoSuchElementException" ∈ gW := gm 498 (by decide +kernel) (by decide +kernel)
theorem l_Lw_23 : Cond.methodLink "NurseryRowLaw" 23 yNr_set ∈ gW := gm 499 (by decide +kernel) (by decide +kernel)
theorem l_Nr_84 : Cond.methodLink "NurseryRow" 84 yNr_fieldCell ∈ gW := gm 503 (by decide +kernel) (by decide +kernel)
theorem l_Nr_139 : Cond.methodLink "NurseryRow" 139 yNr_isObject ∈ gW := gm 507 (by decide +kernel) (by decide +kernel)
theorem l_Nr_142 : Cond.methodLink "NurseryRow" 142 yNr_partOf ∈ gW := gm 511 (by decide +kernel) (by decide +kernel)
theorem l_Nr_153 : Cond.methodLink "NurseryRow" 153 yPt_covers ∈ gW := gm 515 (by decide +kernel) (by decide +kernel)
theorem l_Nr_150 : Cond.methodLink "NurseryRow" 150 yNr_sizeAt ∈ gW := gm 519 (by decide +kernel) (by decide +kernel)
theorem l_Nr_88 : Cond.methodLink "NurseryRow" 88 yNr_isNothingOrObject ∈ gW := gm 523 (by decide +kernel) (by decide +kernel)
theorem kl_Nr_92 : Cond.classLink "NurseryRow" 92 "java/util/NoSuchElementException" ∈ gW := gm 527 (by decide +kernel) (by decide +kernel)
theorem l_Nr_97 : Cond.methodLink "NurseryRow" 97 yNr_exchange ∈ gW := gm 543 (by decide +kernel) (by decide +kernel)
theorem l_Lw_82 : Cond.methodLink "NurseryRowLaw" 82 yLw_get ∈ gW := gm 547 (by decide +kernel) (by decide +kernel)
theorem l_Lw_28 : Cond.methodLink "NurseryRowLaw" 28 yNr_get ∈ gW := gm 550 (by decide +kernel) (by decide +kernel)
theorem l_Lw_85 : Cond.methodLink "NurseryRowLaw" 85 yLw_put ∈ gW := gm 554 (by decide +kernel) (by decide +kernel)
theorem l_Lw_31 : Cond.methodLink "NurseryRowLaw" 31 yNr_put ∈ gW := gm 557 (by decide +kernel) (by decide +kernel)
theorem l_Nr_100 : Cond.methodLink "NurseryRow" 100 yNr_wordCell ∈ gW := gm 561 (by decide +kernel) (by decide +kernel)
theorem l_Lw_88 : Cond.methodLink "NurseryRowLaw" 88 yLw_word ∈ gW := gm 566 (by decide +kernel) (by decide +kernel)
theorem l_Lw_34 : Cond.methodLink "NurseryRowLaw" 34 yNr_word ∈ gW := gm 569 (by decide +kernel) (by decide +kernel)
theorem l_Lw_91 : Cond.methodLink "NurseryRowLaw" 91 yLw_root ∈ gW := gm 573 (by decide +kernel) (by decide +kernel)
theorem l_Lw_37 : Cond.methodLink "NurseryRowLaw" 37 yNr_root ∈ gW := gm 576 (by decide +kernel) (by decide +kernel)
theorem l_Nr_105 : Cond.methodLink "NurseryRow" 105 yNr_isRoot ∈ gW := gm 580 (by decide +kernel) (by decide +kernel)
theorem l_Lw_94 : Cond.methodLink "NurseryRowLaw" 94 yLw_rooted ∈ gW := gm 584 (by decide +kernel) (by decide +kernel)
theorem l_Lw_40 : Cond.methodLink "NurseryRowLaw" 40 yNr_rooted ∈ gW := gm 587 (by decide +kernel) (by decide +kernel)
theorem l_Lw_97 : Cond.methodLink "NurseryRowLaw" 97 yLw_collect ∈ gW := gm 592 (by decide +kernel) (by decide +kernel)
theorem kl_Lw_47 : Cond.classLink "NurseryRowLaw" 47 "java/lang/IllegalStateException" ∈ gW := gm 595 (by decide +kernel) (by decide +kernel)
theorem l_Lw_43 : Cond.methodLink "NurseryRowLaw" 43 yNr_collect ∈ gW := gm 596 (by decide +kernel) (by decide +kernel)
theorem kl_Nr_115 : Cond.classLink "NurseryRow" 115 "java/lang/IllegalStateException" ∈ gW := gm 600 (by decide +kernel) (by decide +kernel)
theorem l_Nr_126 : Cond.methodLink "NurseryRow" 126 yNr_followRoots ∈ gW := gm 616 (by decide +kernel) (by decide +kernel)
theorem l_Nr_167 : Cond.methodLink "NurseryRow" 167 yNr_follow ∈ gW := gm 620 (by decide +kernel) (by decide +kernel)
theorem l_Nr_173 : Cond.methodLink "NurseryRow" 173 yNr_isYoung ∈ gW := gm 624 (by decide +kernel) (by decide +kernel)
theorem l_Nr_176 : Cond.methodLink "NurseryRow" 176 yNr_copyOf ∈ gW := gm 628 (by decide +kernel) (by decide +kernel)
theorem l_Nr_179 : Cond.methodLink "NurseryRow" 179 arraycopyName ∈ gW := gm 632 (by decide +kernel) (by decide +kernel)
theorem l_Nr_185 : Cond.methodLink "NurseryRow" 185 yNr_noteCopy ∈ gW := gm 633 (by decide +kernel) (by decide +kernel)
theorem l_Nr_129 : Cond.methodLink "NurseryRow" 129 yNr_followOld ∈ gW := gm 637 (by decide +kernel) (by decide +kernel)
theorem l_Nr_170 : Cond.methodLink "NurseryRow" 170 yNr_followFields ∈ gW := gm 641 (by decide +kernel) (by decide +kernel)
theorem l_Nr_133 : Cond.methodLink "NurseryRow" 133 yNr_followCopies ∈ gW := gm 645 (by decide +kernel) (by decide +kernel)
theorem l_Nr_136 : Cond.methodLink "NurseryRow" 136 yPt_empty ∈ gW := gm 649 (by decide +kernel) (by decide +kernel)
theorem l_Lw_101 : Cond.methodLink "NurseryRowLaw" 101 yLw_about ∈ gW := gm 650 (by decide +kernel) (by decide +kernel)
theorem l_Lw_49 : Cond.methodLink "NurseryRowLaw" 49 yNr_about ∈ gW := gm 653 (by decide +kernel) (by decide +kernel)
theorem l_Lw_104 : Cond.methodLink "NurseryRowLaw" 104 yLw_next ∈ gW := gm 658 (by decide +kernel) (by decide +kernel)
theorem l_Lw_52 : Cond.methodLink "NurseryRowLaw" 52 yNr_next ∈ gW := gm 661 (by decide +kernel) (by decide +kernel)
theorem l_Nr_147 : Cond.methodLink "NurseryRow" 147 yNr_firstFrom ∈ gW := gm 665 (by decide +kernel) (by decide +kernel)
theorem l_Lw_107 : Cond.methodLink "NurseryRowLaw" 107 yLw_count ∈ gW := gm 669 (by decide +kernel) (by decide +kernel)
theorem l_Lw_55 : Cond.methodLink "NurseryRowLaw" 55 yNr_count ∈ gW := gm 672 (by decide +kernel) (by decide +kernel)
theorem kl_Lw_59 : Cond.classLink "NurseryRowLaw" 59 "NurseryRowModel" ∈ gW := gm 677 (by decide +kernel) (by decide +kernel)
theorem kn_Md : Cond.instantiable "NurseryRowModel" 25 ∈ gW := gm 678 (by decide +kernel) (by decide +kernel)
theorem l_Lw_61 : Cond.methodLink "NurseryRowLaw" 61 yMd_init ∈ gW := gm 679 (by decide +kernel) (by decide +kernel)
theorem l_Md_1 : Cond.methodLink "NurseryRowModel" 1 objectInit ∈ gW := gm 682 (by decide +kernel) (by decide +kernel)
theorem l_Md_66 : Cond.methodLink "NurseryRowModel" 66 yMd_lay ∈ gW := gm 683 (by decide +kernel) (by decide +kernel)
theorem f_Md_70 : Cond.fieldLink "NurseryRowModel" 70 "NurseryRowModel" "thrown" "I" ∈ gW := gm 687 (by decide +kernel) (by decide +kernel)
theorem f_Md_7 : Cond.fieldLink "NurseryRowModel" 7 "NurseryRowModel" "firsts" "[I" ∈ gW := gm 688 (by decide +kernel) (by decide +kernel)
theorem f_Md_13 : Cond.fieldLink "NurseryRowModel" 13 "NurseryRowModel" "sizes" "[I" ∈ gW := gm 689 (by decide +kernel) (by decide +kernel)
theorem f_Md_16 : Cond.fieldLink "NurseryRowModel" 16 "NurseryRowModel" "tops" "[I" ∈ gW := gm 690 (by decide +kernel) (by decide +kernel)
theorem f_Md_19 : Cond.fieldLink "NurseryRowModel" 19 "NurseryRowModel" "row" "I" ∈ gW := gm 691 (by decide +kernel) (by decide +kernel)
theorem f_Md_23 : Cond.fieldLink "NurseryRowModel" 23 "NurseryRowModel" "limited" "I" ∈ gW := gm 692 (by decide +kernel) (by decide +kernel)
theorem f_Md_26 : Cond.fieldLink "NurseryRowModel" 26 "NurseryRowModel" "there" "[Z" ∈ gW := gm 693 (by decide +kernel) (by decide +kernel)
theorem f_Md_30 : Cond.fieldLink "NurseryRowModel" 30 "NurseryRowModel" "areas" "[I" ∈ gW := gm 694 (by decide +kernel) (by decide +kernel)
theorem f_Md_33 : Cond.fieldLink "NurseryRowModel" 33 "NurseryRowModel" "addresses" "[I" ∈ gW := gm 695 (by decide +kernel) (by decide +kernel)
theorem f_Md_36 : Cond.fieldLink "NurseryRowModel" 36 "NurseryRowModel" "ages" "[I" ∈ gW := gm 696 (by decide +kernel) (by decide +kernel)
theorem f_Md_39 : Cond.fieldLink "NurseryRowModel" 39 "NurseryRowModel" "fields" "[I" ∈ gW := gm 697 (by decide +kernel) (by decide +kernel)
theorem f_Md_42 : Cond.fieldLink "NurseryRowModel" 42 "NurseryRowModel" "words" "[I" ∈ gW := gm 698 (by decide +kernel) (by decide +kernel)
theorem f_Md_45 : Cond.fieldLink "NurseryRowModel" 45 "NurseryRowModel" "starts" "[I" ∈ gW := gm 699 (by decide +kernel) (by decide +kernel)
theorem f_Md_73 : Cond.fieldLink "NurseryRowModel" 73 "NurseryRowModel" "filled" "I" ∈ gW := gm 700 (by decide +kernel) (by decide +kernel)
theorem f_Md_48 : Cond.fieldLink "NurseryRowModel" 48 "NurseryRowModel" "data" "[I" ∈ gW := gm 701 (by decide +kernel) (by decide +kernel)
theorem f_Md_51 : Cond.fieldLink "NurseryRowModel" 51 "NurseryRowModel" "spare" "[I" ∈ gW := gm 702 (by decide +kernel) (by decide +kernel)
theorem f_Md_76 : Cond.fieldLink "NurseryRowModel" 76 "NurseryRowModel" "oldMany" "I" ∈ gW := gm 703 (by decide +kernel) (by decide +kernel)
theorem f_Md_54 : Cond.fieldLink "NurseryRowModel" 54 "NurseryRowModel" "olds" "[I" ∈ gW := gm 704 (by decide +kernel) (by decide +kernel)
theorem f_Md_113 : Cond.fieldLink "NurseryRowModel" 113 "NurseryRowModel" "copies" "I" ∈ gW := gm 705 (by decide +kernel) (by decide +kernel)
theorem f_Md_57 : Cond.fieldLink "NurseryRowModel" 57 "NurseryRowModel" "copied" "[I" ∈ gW := gm 706 (by decide +kernel) (by decide +kernel)
theorem f_Md_60 : Cond.fieldLink "NurseryRowModel" 60 "NurseryRowModel" "moved" "[Z" ∈ gW := gm 707 (by decide +kernel) (by decide +kernel)
theorem f_Md_63 : Cond.fieldLink "NurseryRowModel" 63 "NurseryRowModel" "roots" "[I" ∈ gW := gm 708 (by decide +kernel) (by decide +kernel)
theorem f_Md_79 : Cond.fieldLink "NurseryRowModel" 79 "NurseryRowModel" "collections" "I" ∈ gW := gm 709 (by decide +kernel) (by decide +kernel)
theorem f_Md_82 : Cond.fieldLink "NurseryRowModel" 82 "NurseryRowModel" "toRows" "I" ∈ gW := gm 710 (by decide +kernel) (by decide +kernel)
theorem f_Md_85 : Cond.fieldLink "NurseryRowModel" 85 "NurseryRowModel" "toOld" "I" ∈ gW := gm 711 (by decide +kernel) (by decide +kernel)
theorem l_Lw_68 : Cond.methodLink "NurseryRowLaw" 68 yMd_thrown ∈ gW := gm 764 (by decide +kernel) (by decide +kernel)
theorem l_Lw_67 : Cond.methodLink "NurseryRowLaw" 67 yMd_space ∈ gW := gm 768 (by decide +kernel) (by decide +kernel)
theorem l_Md_88 : Cond.methodLink "NurseryRowModel" 88 yMd_goes ∈ gW := gm 772 (by decide +kernel) (by decide +kernel)
theorem l_Lw_74 : Cond.methodLink "NurseryRowLaw" 74 yMd_limit ∈ gW := gm 776 (by decide +kernel) (by decide +kernel)
theorem l_Lw_78 : Cond.methodLink "NurseryRowLaw" 78 yMd_make ∈ gW := gm 780 (by decide +kernel) (by decide +kernel)
theorem l_Md_92 : Cond.methodLink "NurseryRowModel" 92 yMd_freeNumber ∈ gW := gm 784 (by decide +kernel) (by decide +kernel)
theorem l_Lw_81 : Cond.methodLink "NurseryRowLaw" 81 yMd_set ∈ gW := gm 788 (by decide +kernel) (by decide +kernel)
theorem l_Md_100 : Cond.methodLink "NurseryRowModel" 100 yMd_field ∈ gW := gm 792 (by decide +kernel) (by decide +kernel)
theorem l_Md_96 : Cond.methodLink "NurseryRowModel" 96 yMd_object ∈ gW := gm 796 (by decide +kernel) (by decide +kernel)
theorem l_Md_104 : Cond.methodLink "NurseryRowModel" 104 yMd_told ∈ gW := gm 800 (by decide +kernel) (by decide +kernel)
theorem l_Lw_84 : Cond.methodLink "NurseryRowLaw" 84 yMd_get ∈ gW := gm 804 (by decide +kernel) (by decide +kernel)
theorem l_Lw_87 : Cond.methodLink "NurseryRowLaw" 87 yMd_put ∈ gW := gm 808 (by decide +kernel) (by decide +kernel)
theorem l_Md_107 : Cond.methodLink "NurseryRowModel" 107 yMd_place ∈ gW := gm 812 (by decide +kernel) (by decide +kernel)
theorem l_Lw_90 : Cond.methodLink "NurseryRowLaw" 90 yMd_word ∈ gW := gm 816 (by decide +kernel) (by decide +kernel)
theorem l_Lw_93 : Cond.methodLink "NurseryRowLaw" 93 yMd_root ∈ gW := gm 820 (by decide +kernel) (by decide +kernel)
theorem l_Lw_96 : Cond.methodLink "NurseryRowLaw" 96 yMd_rooted ∈ gW := gm 824 (by decide +kernel) (by decide +kernel)
theorem l_Lw_100 : Cond.methodLink "NurseryRowLaw" 100 yMd_collect ∈ gW := gm 828 (by decide +kernel) (by decide +kernel)
theorem l_Md_116 : Cond.methodLink "NurseryRowModel" 116 yMd_find ∈ gW := gm 832 (by decide +kernel) (by decide +kernel)
theorem l_Md_110 : Cond.methodLink "NurseryRowModel" 110 yMd_size ∈ gW := gm 836 (by decide +kernel) (by decide +kernel)
theorem l_Md_120 : Cond.methodLink "NurseryRowModel" 120 yMd_findFields ∈ gW := gm 840 (by decide +kernel) (by decide +kernel)
theorem l_Md_123 : Cond.methodLink "NurseryRowModel" 123 yMd_tidy ∈ gW := gm 844 (by decide +kernel) (by decide +kernel)
theorem l_Lw_103 : Cond.methodLink "NurseryRowLaw" 103 yMd_about ∈ gW := gm 848 (by decide +kernel) (by decide +kernel)
theorem l_Lw_106 : Cond.methodLink "NurseryRowLaw" 106 yMd_next ∈ gW := gm 852 (by decide +kernel) (by decide +kernel)
theorem l_Lw_109 : Cond.methodLink "NurseryRowLaw" 109 yMd_count ∈ gW := gm 856 (by decide +kernel) (by decide +kernel)
theorem l_Md_126 : Cond.methodLink "NurseryRowModel" 126 yMd_many ∈ gW := gm 860 (by decide +kernel) (by decide +kernel)
theorem ka_int : Cond.arrayClass .int ∈ gW := gm 128 (by decide +kernel) (by decide +kernel)
theorem ka_boolean : Cond.arrayClass .boolean ∈ gW := gm 763 (by decide +kernel) (by decide +kernel)
theorem ka_long : Cond.arrayClass .long ∈ gW := gm 864 (by decide +kernel) (by decide +kernel)
theorem ko_i : Cond.instanceMethod objectInit ∈ gW := gm 59 (by decide +kernel) (by decide +kernel)
theorem ko_c : Cond.code objectInit ⟨#[0xb1]⟩ 1 none ∈ gW := gm 60 (by decide +kernel) (by decide +kernel)
end
section
theorem dNr_init_0 : decode cNr_init 0 = .ok (.aload_n 0, 1) := by decide +kernel
theorem dNr_init_1 : decode cNr_init 1 = .ok (.invokespecial 3, 3) := by decide +kernel
theorem dNr_init_4 : decode cNr_init 4 = .ok (.aload_n 0, 1) := by decide +kernel
theorem dNr_init_5 : decode cNr_init 5 = .ok (.iconst 4, 1) := by decide +kernel
theorem dNr_init_6 : decode cNr_init 6 = .ok (.anewarray 9, 3) := by decide +kernel
theorem dNr_init_9 : decode cNr_init 9 = .ok (.putfield 11, 3) := by decide +kernel
theorem dNr_init_12 : decode cNr_init 12 = .ok (.iconst 0, 1) := by decide +kernel
theorem dNr_init_13 : decode cNr_init 13 = .ok (.istore_n 1, 1) := by decide +kernel
theorem dNr_init_14 : decode cNr_init 14 = .ok (.iload_n 1, 1) := by decide +kernel
theorem dNr_init_15 : decode cNr_init 15 = .ok (.iconst 4, 1) := by decide +kernel
theorem dNr_init_16 : decode cNr_init 16 = .ok (.if_icmp .ge 22, 3) := by decide +kernel
theorem dNr_init_19 : decode cNr_init 19 = .ok (.aload_n 0, 1) := by decide +kernel
theorem dNr_init_20 : decode cNr_init 20 = .ok (.getfield 11, 3) := by decide +kernel
theorem dNr_init_23 : decode cNr_init 23 = .ok (.iload_n 1, 1) := by decide +kernel
theorem dNr_init_24 : decode cNr_init 24 = .ok (.new 9, 3) := by decide +kernel
theorem dNr_init_27 : decode cNr_init 27 = .ok (.dup, 1) := by decide +kernel
theorem dNr_init_28 : decode cNr_init 28 = .ok (.invokespecial 15, 3) := by decide +kernel
theorem dNr_init_31 : decode cNr_init 31 = .ok (.aastore, 1) := by decide +kernel
theorem dNr_init_32 : decode cNr_init 32 = .ok (.iinc 1 1, 3) := by decide +kernel
theorem dNr_init_35 : decode cNr_init 35 = .ok (.goto (-21), 3) := by decide +kernel
theorem dNr_init_38 : decode cNr_init 38 = .ok (.aload_n 0, 1) := by decide +kernel
theorem dNr_init_39 : decode cNr_init 39 = .ok (.bipush 16, 2) := by decide +kernel
theorem dNr_init_41 : decode cNr_init 41 = .ok (.newarray .int, 2) := by decide +kernel
theorem dNr_init_43 : decode cNr_init 43 = .ok (.putfield 16, 3) := by decide +kernel
theorem dNr_init_46 : decode cNr_init 46 = .ok (.aload_n 0, 1) := by decide +kernel
theorem dNr_init_47 : decode cNr_init 47 = .ok (.sipush 512, 3) := by decide +kernel
theorem dNr_init_50 : decode cNr_init 50 = .ok (.newarray .int, 2) := by decide +kernel
theorem dNr_init_52 : decode cNr_init 52 = .ok (.putfield 20, 3) := by decide +kernel
theorem dNr_init_55 : decode cNr_init 55 = .ok (.aload_n 0, 1) := by decide +kernel
theorem dNr_init_56 : decode cNr_init 56 = .ok (.sipush 2433, 3) := by decide +kernel
theorem dNr_init_59 : decode cNr_init 59 = .ok (.newarray .int, 2) := by decide +kernel
theorem dNr_init_61 : decode cNr_init 61 = .ok (.putfield 23, 3) := by decide +kernel
theorem dNr_init_64 : decode cNr_init 64 = .ok (.aload_n 0, 1) := by decide +kernel
theorem dNr_init_65 : decode cNr_init 65 = .ok (.iconst 3, 1) := by decide +kernel
theorem dNr_init_66 : decode cNr_init 66 = .ok (.putfield 26, 3) := by decide +kernel
theorem dNr_init_69 : decode cNr_init 69 = .ok (.aload_n 0, 1) := by decide +kernel
theorem dNr_init_70 : decode cNr_init 70 = .ok (.sipush 256, 3) := by decide +kernel
theorem dNr_init_73 : decode cNr_init 73 = .ok (.bipush 64, 2) := by decide +kernel
theorem dNr_init_75 : decode cNr_init 75 = .ok (.sipush 2048, 3) := by decide +kernel
theorem dNr_init_78 : decode cNr_init 78 = .ok (.invokevirtual 30, 3) := by decide +kernel
theorem dNr_init_81 : decode cNr_init 81 = .ok (.return_, 1) := by decide +kernel
theorem dPt_init_0 : decode cPt_init 0 = .ok (.aload_n 0, 1) := by decide +kernel
theorem dPt_init_1 : decode cPt_init 1 = .ok (.invokespecial 1, 3) := by decide +kernel
theorem dPt_init_4 : decode cPt_init 4 = .ok (.return_, 1) := by decide +kernel
theorem dNr_layParts_0 : decode cNr_layParts 0 = .ok (.aload_n 0, 1) := by decide +kernel
theorem dNr_layParts_1 : decode cNr_layParts 1 = .ok (.getfield 11, 3) := by decide +kernel
theorem dNr_layParts_4 : decode cNr_layParts 4 = .ok (.iconst 0, 1) := by decide +kernel
theorem dNr_layParts_5 : decode cNr_layParts 5 = .ok (.aaload, 1) := by decide +kernel
theorem dNr_layParts_6 : decode cNr_layParts 6 = .ok (.iconst 1, 1) := by decide +kernel
theorem dNr_layParts_7 : decode cNr_layParts 7 = .ok (.iload_n 1, 1) := by decide +kernel
theorem dNr_layParts_8 : decode cNr_layParts 8 = .ok (.invokevirtual 158, 3) := by decide +kernel
theorem dNr_layParts_11 : decode cNr_layParts 11 = .ok (.aload_n 0, 1) := by decide +kernel
theorem dNr_layParts_12 : decode cNr_layParts 12 = .ok (.getfield 11, 3) := by decide +kernel
theorem dNr_layParts_15 : decode cNr_layParts 15 = .ok (.iconst 1, 1) := by decide +kernel
theorem dNr_layParts_16 : decode cNr_layParts 16 = .ok (.aaload, 1) := by decide +kernel
theorem dNr_layParts_17 : decode cNr_layParts 17 = .ok (.iconst 1, 1) := by decide +kernel
theorem dNr_layParts_18 : decode cNr_layParts 18 = .ok (.iload_n 1, 1) := by decide +kernel
theorem dNr_layParts_19 : decode cNr_layParts 19 = .ok (.iadd, 1) := by decide +kernel
theorem dNr_layParts_20 : decode cNr_layParts 20 = .ok (.iload_n 2, 1) := by decide +kernel
theorem dNr_layParts_21 : decode cNr_layParts 21 = .ok (.invokevirtual 158, 3) := by decide +kernel
theorem dNr_layParts_24 : decode cNr_layParts 24 = .ok (.aload_n 0, 1) := by decide +kernel
theorem dNr_layParts_25 : decode cNr_layParts 25 = .ok (.getfield 11, 3) := by decide +kernel
theorem dNr_layParts_28 : decode cNr_layParts 28 = .ok (.iconst 2, 1) := by decide +kernel
theorem dNr_layParts_29 : decode cNr_layParts 29 = .ok (.aaload, 1) := by decide +kernel
theorem dNr_layParts_30 : decode cNr_layParts 30 = .ok (.iconst 1, 1) := by decide +kernel
theorem dNr_layParts_31 : decode cNr_layParts 31 = .ok (.iload_n 1, 1) := by decide +kernel
theorem dNr_layParts_32 : decode cNr_layParts 32 = .ok (.iadd, 1) := by decide +kernel
theorem dNr_layParts_33 : decode cNr_layParts 33 = .ok (.iload_n 2, 1) := by decide +kernel
theorem dNr_layParts_34 : decode cNr_layParts 34 = .ok (.iadd, 1) := by decide +kernel
theorem dNr_layParts_35 : decode cNr_layParts 35 = .ok (.iload_n 2, 1) := by decide +kernel
theorem dNr_layParts_36 : decode cNr_layParts 36 = .ok (.invokevirtual 158, 3) := by decide +kernel
theorem dNr_layParts_39 : decode cNr_layParts 39 = .ok (.aload_n 0, 1) := by decide +kernel
theorem dNr_layParts_40 : decode cNr_layParts 40 = .ok (.getfield 11, 3) := by decide +kernel
theorem dNr_layParts_43 : decode cNr_layParts 43 = .ok (.iconst 3, 1) := by decide +kernel
theorem dNr_layParts_44 : decode cNr_layParts 44 = .ok (.aaload, 1) := by decide +kernel
theorem dNr_layParts_45 : decode cNr_layParts 45 = .ok (.iconst 1, 1) := by decide +kernel
theorem dNr_layParts_46 : decode cNr_layParts 46 = .ok (.iload_n 1, 1) := by decide +kernel
theorem dNr_layParts_47 : decode cNr_layParts 47 = .ok (.iadd, 1) := by decide +kernel
theorem dNr_layParts_48 : decode cNr_layParts 48 = .ok (.iconst 2, 1) := by decide +kernel
theorem dNr_layParts_49 : decode cNr_layParts 49 = .ok (.iload_n 2, 1) := by decide +kernel
theorem dNr_layParts_50 : decode cNr_layParts 50 = .ok (.imul, 1) := by decide +kernel
theorem dNr_layParts_51 : decode cNr_layParts 51 = .ok (.iadd, 1) := by decide +kernel
theorem dNr_layParts_52 : decode cNr_layParts 52 = .ok (.iload_n 3, 1) := by decide +kernel
theorem dNr_layParts_53 : decode cNr_layParts 53 = .ok (.invokevirtual 158, 3) := by decide +kernel
theorem dNr_layParts_56 : decode cNr_layParts 56 = .ok (.return_, 1) := by decide +kernel
theorem dPt_lay_0 : decode cPt_lay 0 = .ok (.aload_n 0, 1) := by decide +kernel
theorem dPt_lay_1 : decode cPt_lay 1 = .ok (.iload_n 1, 1) := by decide +kernel
theorem dPt_lay_2 : decode cPt_lay 2 = .ok (.putfield 7, 3) := by decide +kernel
theorem dPt_lay_5 : decode cPt_lay 5 = .ok (.aload_n 0, 1) := by decide +kernel
theorem dPt_lay_6 : decode cPt_lay 6 = .ok (.iload_n 2, 1) := by decide +kernel
theorem dPt_lay_7 : decode cPt_lay 7 = .ok (.putfield 13, 3) := by decide +kernel
theorem dPt_lay_10 : decode cPt_lay 10 = .ok (.aload_n 0, 1) := by decide +kernel
theorem dPt_lay_11 : decode cPt_lay 11 = .ok (.invokevirtual 16, 3) := by decide +kernel
theorem dPt_lay_14 : decode cPt_lay 14 = .ok (.return_, 1) := by decide +kernel
theorem dPt_empty_0 : decode cPt_empty 0 = .ok (.aload_n 0, 1) := by decide +kernel
theorem dPt_empty_1 : decode cPt_empty 1 = .ok (.iconst 0, 1) := by decide +kernel
theorem dPt_empty_2 : decode cPt_empty 2 = .ok (.putfield 19, 3) := by decide +kernel
theorem dPt_empty_5 : decode cPt_empty 5 = .ok (.aload_n 0, 1) := by decide +kernel
theorem dPt_empty_6 : decode cPt_empty 6 = .ok (.iconst 0, 1) := by decide +kernel
theorem dPt_empty_7 : decode cPt_empty 7 = .ok (.putfield 22, 3) := by decide +kernel
theorem dPt_empty_10 : decode cPt_empty 10 = .ok (.return_, 1) := by decide +kernel
theorem dNr_space_0 : decode cNr_space 0 = .ok (.iload_n 1, 1) := by decide +kernel
theorem dNr_space_1 : decode cNr_space 1 = .ok (.bipush 16, 2) := by decide +kernel
theorem dNr_space_3 : decode cNr_space 3 = .ok (.sipush 1024, 3) := by decide +kernel
theorem dNr_space_6 : decode cNr_space 6 = .ok (.invokestatic 34, 3) := by decide +kernel
theorem dNr_space_9 : decode cNr_space 9 = .ok (.ifCond .eq 26, 3) := by decide +kernel
theorem dNr_space_12 : decode cNr_space 12 = .ok (.iload_n 2, 1) := by decide +kernel
theorem dNr_space_13 : decode cNr_space 13 = .ok (.iconst 0, 1) := by decide +kernel
theorem dNr_space_14 : decode cNr_space 14 = .ok (.sipush 512, 3) := by decide +kernel
theorem dNr_space_17 : decode cNr_space 17 = .ok (.invokestatic 34, 3) := by decide +kernel
theorem dNr_space_20 : decode cNr_space 20 = .ok (.ifCond .eq 15, 3) := by decide +kernel
theorem dNr_space_23 : decode cNr_space 23 = .ok (.iload_n 3, 1) := by decide +kernel
theorem dNr_space_24 : decode cNr_space 24 = .ok (.bipush 64, 2) := by decide +kernel
theorem dNr_space_26 : decode cNr_space 26 = .ok (.sipush 8192, 3) := by decide +kernel
theorem dNr_space_29 : decode cNr_space 29 = .ok (.invokestatic 34, 3) := by decide +kernel
theorem dNr_space_32 : decode cNr_space 32 = .ok (.ifCond .ne 13, 3) := by decide +kernel
theorem dNr_space_35 : decode cNr_space 35 = .ok (.new 38, 3) := by decide +kernel
theorem dNr_space_38 : decode cNr_space 38 = .ok (.dup, 1) := by decide +kernel
theorem dNr_space_39 : decode cNr_space 39 = .ok (.ldc 40, 2) := by decide +kernel
theorem dNr_space_41 : decode cNr_space 41 = .ok (.invokespecial 42, 3) := by decide +kernel
theorem dNr_space_44 : decode cNr_space 44 = .ok (.athrow, 1) := by decide +kernel
theorem dNr_space_45 : decode cNr_space 45 = .ok (.aload_n 0, 1) := by decide +kernel
theorem dNr_space_46 : decode cNr_space 46 = .ok (.invokevirtual 45, 3) := by decide +kernel
theorem dNr_space_49 : decode cNr_space 49 = .ok (.istore 4, 2) := by decide +kernel
theorem dNr_space_51 : decode cNr_space 51 = .ok (.aload_n 0, 1) := by decide +kernel
theorem dNr_space_52 : decode cNr_space 52 = .ok (.iload_n 1, 1) := by decide +kernel
theorem dNr_space_53 : decode cNr_space 53 = .ok (.iload_n 2, 1) := by decide +kernel
theorem dNr_space_54 : decode cNr_space 54 = .ok (.iload_n 3, 1) := by decide +kernel
theorem dNr_space_55 : decode cNr_space 55 = .ok (.invokevirtual 30, 3) := by decide +kernel
theorem dNr_space_58 : decode cNr_space 58 = .ok (.aload_n 0, 1) := by decide +kernel
theorem dNr_space_59 : decode cNr_space 59 = .ok (.invokevirtual 49, 3) := by decide +kernel
theorem dNr_space_62 : decode cNr_space 62 = .ok (.aload_n 0, 1) := by decide +kernel
theorem dNr_space_63 : decode cNr_space 63 = .ok (.getfield 16, 3) := by decide +kernel
theorem dNr_space_66 : decode cNr_space 66 = .ok (.iconst 0, 1) := by decide +kernel
theorem dNr_space_67 : decode cNr_space 67 = .ok (.invokestatic 52, 3) := by decide +kernel
theorem dNr_space_70 : decode cNr_space 70 = .ok (.aload_n 0, 1) := by decide +kernel
theorem dNr_space_71 : decode cNr_space 71 = .ok (.iconst 0, 1) := by decide +kernel
theorem dNr_space_72 : decode cNr_space 72 = .ok (.putfield 58, 3) := by decide +kernel
theorem dNr_space_75 : decode cNr_space 75 = .ok (.aload_n 0, 1) := by decide +kernel
theorem dNr_space_76 : decode cNr_space 76 = .ok (.iconst 0, 1) := by decide +kernel
theorem dNr_space_77 : decode cNr_space 77 = .ok (.putfield 61, 3) := by decide +kernel
theorem dNr_space_80 : decode cNr_space 80 = .ok (.aload_n 0, 1) := by decide +kernel
theorem dNr_space_81 : decode cNr_space 81 = .ok (.iconst 0, 1) := by decide +kernel
theorem dNr_space_82 : decode cNr_space 82 = .ok (.putfield 64, 3) := by decide +kernel
theorem dNr_space_85 : decode cNr_space 85 = .ok (.aload_n 0, 1) := by decide +kernel
theorem dNr_space_86 : decode cNr_space 86 = .ok (.iconst 0, 1) := by decide +kernel
theorem dNr_space_87 : decode cNr_space 87 = .ok (.putfield 67, 3) := by decide +kernel
theorem dNr_space_90 : decode cNr_space 90 = .ok (.iload 4, 2) := by decide +kernel
theorem dNr_space_92 : decode cNr_space 92 = .ok (.ireturn, 1) := by decide +kernel
theorem dNr_isWithin_0 : decode cNr_isWithin 0 = .ok (.iload_n 0, 1) := by decide +kernel
theorem dNr_isWithin_1 : decode cNr_isWithin 1 = .ok (.iload_n 1, 1) := by decide +kernel
theorem dNr_isWithin_2 : decode cNr_isWithin 2 = .ok (.if_icmp .lt 12, 3) := by decide +kernel
theorem dNr_isWithin_5 : decode cNr_isWithin 5 = .ok (.iload_n 0, 1) := by decide +kernel
theorem dNr_isWithin_6 : decode cNr_isWithin 6 = .ok (.iload_n 2, 1) := by decide +kernel
theorem dNr_isWithin_7 : decode cNr_isWithin 7 = .ok (.if_icmp .gt 7, 3) := by decide +kernel
theorem dNr_isWithin_10 : decode cNr_isWithin 10 = .ok (.iconst 1, 1) := by decide +kernel
theorem dNr_isWithin_11 : decode cNr_isWithin 11 = .ok (.goto 4, 3) := by decide +kernel
theorem dNr_isWithin_14 : decode cNr_isWithin 14 = .ok (.iconst 0, 1) := by decide +kernel
theorem dNr_isWithin_15 : decode cNr_isWithin 15 = .ok (.ireturn, 1) := by decide +kernel
theorem dNr_allCells_0 : decode cNr_allCells 0 = .ok (.iconst 0, 1) := by decide +kernel
theorem dNr_allCells_1 : decode cNr_allCells 1 = .ok (.istore_n 1, 1) := by decide +kernel
theorem dNr_allCells_2 : decode cNr_allCells 2 = .ok (.iconst 0, 1) := by decide +kernel
theorem dNr_allCells_3 : decode cNr_allCells 3 = .ok (.istore_n 2, 1) := by decide +kernel
theorem dNr_allCells_4 : decode cNr_allCells 4 = .ok (.iload_n 2, 1) := by decide +kernel
theorem dNr_allCells_5 : decode cNr_allCells 5 = .ok (.iconst 4, 1) := by decide +kernel
theorem dNr_allCells_6 : decode cNr_allCells 6 = .ok (.if_icmp .ge 21, 3) := by decide +kernel
theorem dNr_allCells_9 : decode cNr_allCells 9 = .ok (.iload_n 1, 1) := by decide +kernel
theorem dNr_allCells_10 : decode cNr_allCells 10 = .ok (.aload_n 0, 1) := by decide +kernel
theorem dNr_allCells_11 : decode cNr_allCells 11 = .ok (.getfield 11, 3) := by decide +kernel
theorem dNr_allCells_14 : decode cNr_allCells 14 = .ok (.iload_n 2, 1) := by decide +kernel
theorem dNr_allCells_15 : decode cNr_allCells 15 = .ok (.aaload, 1) := by decide +kernel
theorem dNr_allCells_16 : decode cNr_allCells 16 = .ok (.getfield 162, 3) := by decide +kernel
theorem dNr_allCells_19 : decode cNr_allCells 19 = .ok (.iadd, 1) := by decide +kernel
theorem dNr_allCells_20 : decode cNr_allCells 20 = .ok (.istore_n 1, 1) := by decide +kernel
theorem dNr_allCells_21 : decode cNr_allCells 21 = .ok (.iinc 2 1, 3) := by decide +kernel
theorem dNr_allCells_24 : decode cNr_allCells 24 = .ok (.goto (-20), 3) := by decide +kernel
theorem dNr_allCells_27 : decode cNr_allCells 27 = .ok (.iload_n 1, 1) := by decide +kernel
theorem dNr_allCells_28 : decode cNr_allCells 28 = .ok (.ireturn, 1) := by decide +kernel
theorem dNr_growCells_0 : decode cNr_growCells 0 = .ok (.aload_n 0, 1) := by decide +kernel
theorem dNr_growCells_1 : decode cNr_growCells 1 = .ok (.getfield 23, 3) := by decide +kernel
theorem dNr_growCells_4 : decode cNr_growCells 4 = .ok (.arraylength, 1) := by decide +kernel
theorem dNr_growCells_5 : decode cNr_growCells 5 = .ok (.aload_n 0, 1) := by decide +kernel
theorem dNr_growCells_6 : decode cNr_growCells 6 = .ok (.invokevirtual 45, 3) := by decide +kernel
theorem dNr_growCells_9 : decode cNr_growCells 9 = .ok (.if_icmp .gt 12, 3) := by decide +kernel
theorem dNr_growCells_12 : decode cNr_growCells 12 = .ok (.aload_n 0, 1) := by decide +kernel
theorem dNr_growCells_13 : decode cNr_growCells 13 = .ok (.sipush 10241, 3) := by decide +kernel
theorem dNr_growCells_16 : decode cNr_growCells 16 = .ok (.newarray .int, 2) := by decide +kernel
theorem dNr_growCells_18 : decode cNr_growCells 18 = .ok (.putfield 23, 3) := by decide +kernel
theorem dNr_growCells_21 : decode cNr_growCells 21 = .ok (.return_, 1) := by decide +kernel
theorem dAr_fill2_0 : decode cAr_fill2 0 = .ok (.iconst 0, 1) := by decide +kernel
theorem dAr_fill2_1 : decode cAr_fill2 1 = .ok (.istore_n 2, 1) := by decide +kernel
theorem dAr_fill2_2 : decode cAr_fill2 2 = .ok (.aload_n 0, 1) := by decide +kernel
theorem dAr_fill2_3 : decode cAr_fill2 3 = .ok (.arraylength, 1) := by decide +kernel
theorem dAr_fill2_4 : decode cAr_fill2 4 = .ok (.istore_n 3, 1) := by decide +kernel
theorem dAr_fill2_5 : decode cAr_fill2 5 = .ok (.iload_n 2, 1) := by decide +kernel
theorem dAr_fill2_6 : decode cAr_fill2 6 = .ok (.iload_n 3, 1) := by decide +kernel
theorem dAr_fill2_7 : decode cAr_fill2 7 = .ok (.if_icmp .ge 13, 3) := by decide +kernel
theorem dAr_fill2_10 : decode cAr_fill2 10 = .ok (.aload_n 0, 1) := by decide +kernel
theorem dAr_fill2_11 : decode cAr_fill2 11 = .ok (.iload_n 2, 1) := by decide +kernel
theorem dAr_fill2_12 : decode cAr_fill2 12 = .ok (.iload_n 1, 1) := by decide +kernel
theorem dAr_fill2_13 : decode cAr_fill2 13 = .ok (.iastore, 1) := by decide +kernel
theorem dAr_fill2_14 : decode cAr_fill2 14 = .ok (.iinc 2 1, 3) := by decide +kernel
theorem dAr_fill2_17 : decode cAr_fill2 17 = .ok (.goto (-12), 3) := by decide +kernel
theorem dAr_fill2_20 : decode cAr_fill2 20 = .ok (.return_, 1) := by decide +kernel
theorem dNr_limit_0 : decode cNr_limit 0 = .ok (.iload_n 1, 1) := by decide +kernel
theorem dNr_limit_1 : decode cNr_limit 1 = .ok (.iconst 0, 1) := by decide +kernel
theorem dNr_limit_2 : decode cNr_limit 2 = .ok (.bipush 15, 2) := by decide +kernel
theorem dNr_limit_4 : decode cNr_limit 4 = .ok (.invokestatic 34, 3) := by decide +kernel
theorem dNr_limit_7 : decode cNr_limit 7 = .ok (.ifCond .ne 13, 3) := by decide +kernel
theorem dNr_limit_10 : decode cNr_limit 10 = .ok (.new 38, 3) := by decide +kernel
theorem dNr_limit_13 : decode cNr_limit 13 = .ok (.dup, 1) := by decide +kernel
theorem dNr_limit_14 : decode cNr_limit 14 = .ok (.ldc 70, 2) := by decide +kernel
theorem dNr_limit_16 : decode cNr_limit 16 = .ok (.invokespecial 42, 3) := by decide +kernel
theorem dNr_limit_19 : decode cNr_limit 19 = .ok (.athrow, 1) := by decide +kernel
theorem dNr_limit_20 : decode cNr_limit 20 = .ok (.aload_n 0, 1) := by decide +kernel
theorem dNr_limit_21 : decode cNr_limit 21 = .ok (.getfield 26, 3) := by decide +kernel
theorem dNr_limit_24 : decode cNr_limit 24 = .ok (.istore_n 2, 1) := by decide +kernel
theorem dNr_limit_25 : decode cNr_limit 25 = .ok (.aload_n 0, 1) := by decide +kernel
theorem dNr_limit_26 : decode cNr_limit 26 = .ok (.iload_n 1, 1) := by decide +kernel
theorem dNr_limit_27 : decode cNr_limit 27 = .ok (.putfield 26, 3) := by decide +kernel
theorem dNr_limit_30 : decode cNr_limit 30 = .ok (.iload_n 2, 1) := by decide +kernel
theorem dNr_limit_31 : decode cNr_limit 31 = .ok (.ireturn, 1) := by decide +kernel
theorem dNr_make_0 : decode cNr_make 0 = .ok (.iload_n 1, 1) := by decide +kernel
theorem dNr_make_1 : decode cNr_make 1 = .ok (.iconst 0, 1) := by decide +kernel
theorem dNr_make_2 : decode cNr_make 2 = .ok (.sipush 200, 3) := by decide +kernel
theorem dNr_make_5 : decode cNr_make 5 = .ok (.invokestatic 34, 3) := by decide +kernel
theorem dNr_make_8 : decode cNr_make 8 = .ok (.ifCond .eq 14, 3) := by decide +kernel
theorem dNr_make_11 : decode cNr_make 11 = .ok (.iload_n 2, 1) := by decide +kernel
theorem dNr_make_12 : decode cNr_make 12 = .ok (.iconst 0, 1) := by decide +kernel
theorem dNr_make_13 : decode cNr_make 13 = .ok (.sipush 200, 3) := by decide +kernel
theorem dNr_make_16 : decode cNr_make 16 = .ok (.invokestatic 34, 3) := by decide +kernel
theorem dNr_make_19 : decode cNr_make 19 = .ok (.ifCond .ne 13, 3) := by decide +kernel
theorem dNr_make_22 : decode cNr_make 22 = .ok (.new 38, 3) := by decide +kernel
theorem dNr_make_25 : decode cNr_make 25 = .ok (.dup, 1) := by decide +kernel
theorem dNr_make_26 : decode cNr_make 26 = .ok (.ldc 72, 2) := by decide +kernel
theorem dNr_make_28 : decode cNr_make 28 = .ok (.invokespecial 42, 3) := by decide +kernel
theorem dNr_make_31 : decode cNr_make 31 = .ok (.athrow, 1) := by decide +kernel
theorem dNr_make_32 : decode cNr_make 32 = .ok (.iconst 3, 1) := by decide +kernel
theorem dNr_make_33 : decode cNr_make 33 = .ok (.iload_n 1, 1) := by decide +kernel
theorem dNr_make_34 : decode cNr_make 34 = .ok (.iadd, 1) := by decide +kernel
theorem dNr_make_35 : decode cNr_make 35 = .ok (.iload_n 2, 1) := by decide +kernel
theorem dNr_make_36 : decode cNr_make 36 = .ok (.iadd, 1) := by decide +kernel
theorem dNr_make_37 : decode cNr_make 37 = .ok (.istore_n 3, 1) := by decide +kernel
theorem dNr_make_38 : decode cNr_make 38 = .ok (.aload_n 0, 1) := by decide +kernel
theorem dNr_make_39 : decode cNr_make 39 = .ok (.getfield 11, 3) := by decide +kernel
theorem dNr_make_42 : decode cNr_make 42 = .ok (.iconst 0, 1) := by decide +kernel
theorem dNr_make_43 : decode cNr_make 43 = .ok (.aaload, 1) := by decide +kernel
theorem dNr_make_44 : decode cNr_make 44 = .ok (.invokevirtual 74, 3) := by decide +kernel
theorem dNr_make_47 : decode cNr_make 47 = .ok (.iload_n 3, 1) := by decide +kernel
theorem dNr_make_48 : decode cNr_make 48 = .ok (.if_icmp .ge 5, 3) := by decide +kernel
theorem dNr_make_51 : decode cNr_make 51 = .ok (.iconst 0, 1) := by decide +kernel
theorem dNr_make_52 : decode cNr_make 52 = .ok (.ireturn, 1) := by decide +kernel
theorem dNr_make_53 : decode cNr_make 53 = .ok (.aload_n 0, 1) := by decide +kernel
theorem dNr_make_54 : decode cNr_make 54 = .ok (.getfield 11, 3) := by decide +kernel
theorem dNr_make_57 : decode cNr_make 57 = .ok (.iconst 0, 1) := by decide +kernel
theorem dNr_make_58 : decode cNr_make 58 = .ok (.aaload, 1) := by decide +kernel
theorem dNr_make_59 : decode cNr_make 59 = .ok (.iload_n 3, 1) := by decide +kernel
theorem dNr_make_60 : decode cNr_make 60 = .ok (.invokevirtual 77, 3) := by decide +kernel
theorem dNr_make_63 : decode cNr_make 63 = .ok (.istore 4, 2) := by decide +kernel
theorem dNr_make_65 : decode cNr_make 65 = .ok (.aload_n 0, 1) := by decide +kernel
theorem dNr_make_66 : decode cNr_make 66 = .ok (.getfield 23, 3) := by decide +kernel
theorem dNr_make_69 : decode cNr_make 69 = .ok (.iload 4, 2) := by decide +kernel
theorem dNr_make_71 : decode cNr_make 71 = .ok (.iload 4, 2) := by decide +kernel
theorem dNr_make_73 : decode cNr_make 73 = .ok (.iload_n 3, 1) := by decide +kernel
theorem dNr_make_74 : decode cNr_make 74 = .ok (.iadd, 1) := by decide +kernel
theorem dNr_make_75 : decode cNr_make 75 = .ok (.iconst 0, 1) := by decide +kernel
theorem dNr_make_76 : decode cNr_make 76 = .ok (.invokestatic 81, 3) := by decide +kernel
theorem dNr_make_79 : decode cNr_make 79 = .ok (.aload_n 0, 1) := by decide +kernel
theorem dNr_make_80 : decode cNr_make 80 = .ok (.getfield 23, 3) := by decide +kernel
theorem dNr_make_83 : decode cNr_make 83 = .ok (.iload 4, 2) := by decide +kernel
theorem dNr_make_85 : decode cNr_make 85 = .ok (.iload_n 1, 1) := by decide +kernel
theorem dNr_make_86 : decode cNr_make 86 = .ok (.iastore, 1) := by decide +kernel
theorem dNr_make_87 : decode cNr_make 87 = .ok (.aload_n 0, 1) := by decide +kernel
theorem dNr_make_88 : decode cNr_make 88 = .ok (.getfield 23, 3) := by decide +kernel
theorem dNr_make_91 : decode cNr_make 91 = .ok (.iload 4, 2) := by decide +kernel
theorem dNr_make_93 : decode cNr_make 93 = .ok (.iconst 1, 1) := by decide +kernel
theorem dNr_make_94 : decode cNr_make 94 = .ok (.iadd, 1) := by decide +kernel
theorem dNr_make_95 : decode cNr_make 95 = .ok (.iload_n 2, 1) := by decide +kernel
theorem dNr_make_96 : decode cNr_make 96 = .ok (.iastore, 1) := by decide +kernel
theorem dNr_make_97 : decode cNr_make 97 = .ok (.iload 4, 2) := by decide +kernel
theorem dNr_make_99 : decode cNr_make 99 = .ok (.ireturn, 1) := by decide +kernel
theorem dPt_free_0 : decode cPt_free 0 = .ok (.aload_n 0, 1) := by decide +kernel
theorem dPt_free_1 : decode cPt_free 1 = .ok (.getfield 13, 3) := by decide +kernel
theorem dPt_free_4 : decode cPt_free 4 = .ok (.aload_n 0, 1) := by decide +kernel
theorem dPt_free_5 : decode cPt_free 5 = .ok (.getfield 19, 3) := by decide +kernel
theorem dPt_free_8 : decode cPt_free 8 = .ok (.isub, 1) := by decide +kernel
theorem dPt_free_9 : decode cPt_free 9 = .ok (.ireturn, 1) := by decide +kernel
theorem dPt_take_0 : decode cPt_take 0 = .ok (.aload_n 0, 1) := by decide +kernel
theorem dPt_take_1 : decode cPt_take 1 = .ok (.invokevirtual 25, 3) := by decide +kernel
theorem dPt_take_4 : decode cPt_take 4 = .ok (.istore_n 2, 1) := by decide +kernel
theorem dPt_take_5 : decode cPt_take 5 = .ok (.aload_n 0, 1) := by decide +kernel
theorem dPt_take_6 : decode cPt_take 6 = .ok (.dup, 1) := by decide +kernel
theorem dPt_take_7 : decode cPt_take 7 = .ok (.getfield 19, 3) := by decide +kernel
theorem dPt_take_10 : decode cPt_take 10 = .ok (.iload_n 1, 1) := by decide +kernel
theorem dPt_take_11 : decode cPt_take 11 = .ok (.iadd, 1) := by decide +kernel
theorem dPt_take_12 : decode cPt_take 12 = .ok (.putfield 19, 3) := by decide +kernel
theorem dPt_take_15 : decode cPt_take 15 = .ok (.aload_n 0, 1) := by decide +kernel
theorem dPt_take_16 : decode cPt_take 16 = .ok (.dup, 1) := by decide +kernel
theorem dPt_take_17 : decode cPt_take 17 = .ok (.getfield 22, 3) := by decide +kernel
theorem dPt_take_20 : decode cPt_take 20 = .ok (.iconst 1, 1) := by decide +kernel
theorem dPt_take_21 : decode cPt_take 21 = .ok (.iadd, 1) := by decide +kernel
theorem dPt_take_22 : decode cPt_take 22 = .ok (.putfield 22, 3) := by decide +kernel
theorem dPt_take_25 : decode cPt_take 25 = .ok (.iload_n 2, 1) := by decide +kernel
theorem dPt_take_26 : decode cPt_take 26 = .ok (.ireturn, 1) := by decide +kernel
theorem dPt_end_0 : decode cPt_end 0 = .ok (.aload_n 0, 1) := by decide +kernel
theorem dPt_end_1 : decode cPt_end 1 = .ok (.getfield 7, 3) := by decide +kernel
theorem dPt_end_4 : decode cPt_end 4 = .ok (.aload_n 0, 1) := by decide +kernel
theorem dPt_end_5 : decode cPt_end 5 = .ok (.getfield 19, 3) := by decide +kernel
theorem dPt_end_8 : decode cPt_end 8 = .ok (.iadd, 1) := by decide +kernel
theorem dPt_end_9 : decode cPt_end 9 = .ok (.ireturn, 1) := by decide +kernel
theorem dAr_fill4_0 : decode cAr_fill4 0 = .ok (.aload_n 0, 1) := by decide +kernel
theorem dAr_fill4_1 : decode cAr_fill4 1 = .ok (.arraylength, 1) := by decide +kernel
theorem dAr_fill4_2 : decode cAr_fill4 2 = .ok (.iload_n 1, 1) := by decide +kernel
theorem dAr_fill4_3 : decode cAr_fill4 3 = .ok (.iload_n 2, 1) := by decide +kernel
theorem dAr_fill4_4 : decode cAr_fill4 4 = .ok (.invokestatic 13, 3) := by decide +kernel
theorem dAr_fill4_7 : decode cAr_fill4 7 = .ok (.iload_n 1, 1) := by decide +kernel
theorem dAr_fill4_8 : decode cAr_fill4 8 = .ok (.istore 4, 2) := by decide +kernel
theorem dAr_fill4_10 : decode cAr_fill4 10 = .ok (.iload 4, 2) := by decide +kernel
theorem dAr_fill4_12 : decode cAr_fill4 12 = .ok (.iload_n 2, 1) := by decide +kernel
theorem dAr_fill4_13 : decode cAr_fill4 13 = .ok (.if_icmp .ge 14, 3) := by decide +kernel
theorem dAr_fill4_16 : decode cAr_fill4 16 = .ok (.aload_n 0, 1) := by decide +kernel
theorem dAr_fill4_17 : decode cAr_fill4 17 = .ok (.iload 4, 2) := by decide +kernel
theorem dAr_fill4_19 : decode cAr_fill4 19 = .ok (.iload_n 3, 1) := by decide +kernel
theorem dAr_fill4_20 : decode cAr_fill4 20 = .ok (.iastore, 1) := by decide +kernel
theorem dAr_fill4_21 : decode cAr_fill4 21 = .ok (.iinc 4 1, 3) := by decide +kernel
theorem dAr_fill4_24 : decode cAr_fill4 24 = .ok (.goto (-14), 3) := by decide +kernel
theorem dAr_fill4_27 : decode cAr_fill4 27 = .ok (.return_, 1) := by decide +kernel
theorem dAr_rangeCheck_0 : decode cAr_rangeCheck 0 = .ok (.iload_n 1, 1) := by decide +kernel
theorem dAr_rangeCheck_1 : decode cAr_rangeCheck 1 = .ok (.iload_n 2, 1) := by decide +kernel
theorem dAr_rangeCheck_2 : decode cAr_rangeCheck 2 = .ok (.if_icmp .le 44, 3) := by decide +kernel
theorem dAr_rangeCheck_5 : decode cAr_rangeCheck 5 = .ok (.new 43, 3) := by decide +kernel
theorem dAr_rangeCheck_8 : decode cAr_rangeCheck 8 = .ok (.dup, 1) := by decide +kernel
theorem dAr_rangeCheck_9 : decode cAr_rangeCheck 9 = .ok (.new 45, 3) := by decide +kernel
theorem dAr_rangeCheck_12 : decode cAr_rangeCheck 12 = .ok (.dup, 1) := by decide +kernel
theorem dAr_rangeCheck_13 : decode cAr_rangeCheck 13 = .ok (.invokespecial 47, 3) := by decide +kernel
theorem dAr_rangeCheck_16 : decode cAr_rangeCheck 16 = .ok (.ldc 48, 2) := by decide +kernel
theorem dAr_rangeCheck_18 : decode cAr_rangeCheck 18 = .ok (.invokevirtual 50, 3) := by decide +kernel
theorem dAr_rangeCheck_21 : decode cAr_rangeCheck 21 = .ok (.iload_n 1, 1) := by decide +kernel
theorem dAr_rangeCheck_22 : decode cAr_rangeCheck 22 = .ok (.invokevirtual 54, 3) := by decide +kernel
theorem dAr_rangeCheck_25 : decode cAr_rangeCheck 25 = .ok (.ldc 57, 2) := by decide +kernel
theorem dAr_rangeCheck_27 : decode cAr_rangeCheck 27 = .ok (.invokevirtual 50, 3) := by decide +kernel
theorem dAr_rangeCheck_30 : decode cAr_rangeCheck 30 = .ok (.iload_n 2, 1) := by decide +kernel
theorem dAr_rangeCheck_31 : decode cAr_rangeCheck 31 = .ok (.invokevirtual 54, 3) := by decide +kernel
theorem dAr_rangeCheck_34 : decode cAr_rangeCheck 34 = .ok (.ldc 59, 2) := by decide +kernel
theorem dAr_rangeCheck_36 : decode cAr_rangeCheck 36 = .ok (.invokevirtual 50, 3) := by decide +kernel
theorem dAr_rangeCheck_39 : decode cAr_rangeCheck 39 = .ok (.invokevirtual 61, 3) := by decide +kernel
theorem dAr_rangeCheck_42 : decode cAr_rangeCheck 42 = .ok (.invokespecial 65, 3) := by decide +kernel
theorem dAr_rangeCheck_45 : decode cAr_rangeCheck 45 = .ok (.athrow, 1) := by decide +kernel
theorem dAr_rangeCheck_46 : decode cAr_rangeCheck 46 = .ok (.iload_n 1, 1) := by decide +kernel
theorem dAr_rangeCheck_47 : decode cAr_rangeCheck 47 = .ok (.ifCond .ge 12, 3) := by decide +kernel
theorem dAr_rangeCheck_50 : decode cAr_rangeCheck 50 = .ok (.new 68, 3) := by decide +kernel
theorem dAr_rangeCheck_53 : decode cAr_rangeCheck 53 = .ok (.dup, 1) := by decide +kernel
theorem dAr_rangeCheck_54 : decode cAr_rangeCheck 54 = .ok (.iload_n 1, 1) := by decide +kernel
theorem dAr_rangeCheck_55 : decode cAr_rangeCheck 55 = .ok (.invokespecial 70, 3) := by decide +kernel
theorem dAr_rangeCheck_58 : decode cAr_rangeCheck 58 = .ok (.athrow, 1) := by decide +kernel
theorem dAr_rangeCheck_59 : decode cAr_rangeCheck 59 = .ok (.iload_n 2, 1) := by decide +kernel
theorem dAr_rangeCheck_60 : decode cAr_rangeCheck 60 = .ok (.iload_n 0, 1) := by decide +kernel
theorem dAr_rangeCheck_61 : decode cAr_rangeCheck 61 = .ok (.if_icmp .le 12, 3) := by decide +kernel
theorem dAr_rangeCheck_64 : decode cAr_rangeCheck 64 = .ok (.new 68, 3) := by decide +kernel
theorem dAr_rangeCheck_67 : decode cAr_rangeCheck 67 = .ok (.dup, 1) := by decide +kernel
theorem dAr_rangeCheck_68 : decode cAr_rangeCheck 68 = .ok (.iload_n 2, 1) := by decide +kernel
theorem dAr_rangeCheck_69 : decode cAr_rangeCheck 69 = .ok (.invokespecial 70, 3) := by decide +kernel
theorem dAr_rangeCheck_72 : decode cAr_rangeCheck 72 = .ok (.athrow, 1) := by decide +kernel
theorem dAr_rangeCheck_73 : decode cAr_rangeCheck 73 = .ok (.return_, 1) := by decide +kernel
theorem dNr_set_0 : decode cNr_set 0 = .ok (.aload_n 0, 1) := by decide +kernel
theorem dNr_set_1 : decode cNr_set 1 = .ok (.iload_n 1, 1) := by decide +kernel
theorem dNr_set_2 : decode cNr_set 2 = .ok (.iload_n 2, 1) := by decide +kernel
theorem dNr_set_3 : decode cNr_set 3 = .ok (.invokevirtual 84, 3) := by decide +kernel
theorem dNr_set_6 : decode cNr_set 6 = .ok (.istore 4, 2) := by decide +kernel
theorem dNr_set_8 : decode cNr_set 8 = .ok (.iload 4, 2) := by decide +kernel
theorem dNr_set_10 : decode cNr_set 10 = .ok (.ifCond .eq 11, 3) := by decide +kernel
theorem dNr_set_13 : decode cNr_set 13 = .ok (.aload_n 0, 1) := by decide +kernel
theorem dNr_set_14 : decode cNr_set 14 = .ok (.iload_n 3, 1) := by decide +kernel
theorem dNr_set_15 : decode cNr_set 15 = .ok (.invokevirtual 88, 3) := by decide +kernel
theorem dNr_set_18 : decode cNr_set 18 = .ok (.ifCond .ne 13, 3) := by decide +kernel
theorem dNr_set_21 : decode cNr_set 21 = .ok (.new 92, 3) := by decide +kernel
theorem dNr_set_24 : decode cNr_set 24 = .ok (.dup, 1) := by decide +kernel
theorem dNr_set_25 : decode cNr_set 25 = .ok (.ldc 94, 2) := by decide +kernel
theorem dNr_set_27 : decode cNr_set 27 = .ok (.invokespecial 96, 3) := by decide +kernel
theorem dNr_set_30 : decode cNr_set 30 = .ok (.athrow, 1) := by decide +kernel
theorem dNr_set_31 : decode cNr_set 31 = .ok (.aload_n 0, 1) := by decide +kernel
theorem dNr_set_32 : decode cNr_set 32 = .ok (.iload 4, 2) := by decide +kernel
theorem dNr_set_34 : decode cNr_set 34 = .ok (.iload_n 3, 1) := by decide +kernel
theorem dNr_set_35 : decode cNr_set 35 = .ok (.invokevirtual 97, 3) := by decide +kernel
theorem dNr_set_38 : decode cNr_set 38 = .ok (.ireturn, 1) := by decide +kernel
theorem dNr_fieldCell_0 : decode cNr_fieldCell 0 = .ok (.aload_n 0, 1) := by decide +kernel
theorem dNr_fieldCell_1 : decode cNr_fieldCell 1 = .ok (.iload_n 1, 1) := by decide +kernel
theorem dNr_fieldCell_2 : decode cNr_fieldCell 2 = .ok (.invokevirtual 139, 3) := by decide +kernel
theorem dNr_fieldCell_5 : decode cNr_fieldCell 5 = .ok (.ifCond .eq 17, 3) := by decide +kernel
theorem dNr_fieldCell_8 : decode cNr_fieldCell 8 = .ok (.iload_n 2, 1) := by decide +kernel
theorem dNr_fieldCell_9 : decode cNr_fieldCell 9 = .ok (.ifCond .lt 13, 3) := by decide +kernel
theorem dNr_fieldCell_12 : decode cNr_fieldCell 12 = .ok (.iload_n 2, 1) := by decide +kernel
theorem dNr_fieldCell_13 : decode cNr_fieldCell 13 = .ok (.aload_n 0, 1) := by decide +kernel
theorem dNr_fieldCell_14 : decode cNr_fieldCell 14 = .ok (.getfield 23, 3) := by decide +kernel
theorem dNr_fieldCell_17 : decode cNr_fieldCell 17 = .ok (.iload_n 1, 1) := by decide +kernel
theorem dNr_fieldCell_18 : decode cNr_fieldCell 18 = .ok (.iaload, 1) := by decide +kernel
theorem dNr_fieldCell_19 : decode cNr_fieldCell 19 = .ok (.if_icmp .lt 5, 3) := by decide +kernel
theorem dNr_fieldCell_22 : decode cNr_fieldCell 22 = .ok (.iconst 0, 1) := by decide +kernel
theorem dNr_fieldCell_23 : decode cNr_fieldCell 23 = .ok (.ireturn, 1) := by decide +kernel
theorem dNr_fieldCell_24 : decode cNr_fieldCell 24 = .ok (.iload_n 1, 1) := by decide +kernel
theorem dNr_fieldCell_25 : decode cNr_fieldCell 25 = .ok (.iconst 3, 1) := by decide +kernel
theorem dNr_fieldCell_26 : decode cNr_fieldCell 26 = .ok (.iadd, 1) := by decide +kernel
theorem dNr_fieldCell_27 : decode cNr_fieldCell 27 = .ok (.iload_n 2, 1) := by decide +kernel
theorem dNr_fieldCell_28 : decode cNr_fieldCell 28 = .ok (.iadd, 1) := by decide +kernel
theorem dNr_fieldCell_29 : decode cNr_fieldCell 29 = .ok (.ireturn, 1) := by decide +kernel
theorem dNr_isObject_0 : decode cNr_isObject 0 = .ok (.aload_n 0, 1) := by decide +kernel
theorem dNr_isObject_1 : decode cNr_isObject 1 = .ok (.iload_n 1, 1) := by decide +kernel
theorem dNr_isObject_2 : decode cNr_isObject 2 = .ok (.invokevirtual 142, 3) := by decide +kernel
theorem dNr_isObject_5 : decode cNr_isObject 5 = .ok (.istore_n 2, 1) := by decide +kernel
theorem dNr_isObject_6 : decode cNr_isObject 6 = .ok (.iload_n 2, 1) := by decide +kernel
theorem dNr_isObject_7 : decode cNr_isObject 7 = .ok (.iconst 4, 1) := by decide +kernel
theorem dNr_isObject_8 : decode cNr_isObject 8 = .ok (.if_icmp .ne 5, 3) := by decide +kernel
theorem dNr_isObject_11 : decode cNr_isObject 11 = .ok (.iconst 0, 1) := by decide +kernel
theorem dNr_isObject_12 : decode cNr_isObject 12 = .ok (.ireturn, 1) := by decide +kernel
theorem dNr_isObject_13 : decode cNr_isObject 13 = .ok (.aload_n 0, 1) := by decide +kernel
theorem dNr_isObject_14 : decode cNr_isObject 14 = .ok (.getfield 11, 3) := by decide +kernel
theorem dNr_isObject_17 : decode cNr_isObject 17 = .ok (.iload_n 2, 1) := by decide +kernel
theorem dNr_isObject_18 : decode cNr_isObject 18 = .ok (.aaload, 1) := by decide +kernel
theorem dNr_isObject_19 : decode cNr_isObject 19 = .ok (.getfield 164, 3) := by decide +kernel
theorem dNr_isObject_22 : decode cNr_isObject 22 = .ok (.istore_n 3, 1) := by decide +kernel
theorem dNr_isObject_23 : decode cNr_isObject 23 = .ok (.iconst 0, 1) := by decide +kernel
theorem dNr_isObject_24 : decode cNr_isObject 24 = .ok (.istore 4, 2) := by decide +kernel
theorem dNr_isObject_26 : decode cNr_isObject 26 = .ok (.iload 4, 2) := by decide +kernel
theorem dNr_isObject_28 : decode cNr_isObject 28 = .ok (.aload_n 0, 1) := by decide +kernel
theorem dNr_isObject_29 : decode cNr_isObject 29 = .ok (.getfield 11, 3) := by decide +kernel
theorem dNr_isObject_32 : decode cNr_isObject 32 = .ok (.iload_n 2, 1) := by decide +kernel
theorem dNr_isObject_33 : decode cNr_isObject 33 = .ok (.aaload, 1) := by decide +kernel
theorem dNr_isObject_34 : decode cNr_isObject 34 = .ok (.getfield 120, 3) := by decide +kernel
theorem dNr_isObject_37 : decode cNr_isObject 37 = .ok (.if_icmp .ge 22, 3) := by decide +kernel
theorem dNr_isObject_40 : decode cNr_isObject 40 = .ok (.iload_n 3, 1) := by decide +kernel
theorem dNr_isObject_41 : decode cNr_isObject 41 = .ok (.iload_n 1, 1) := by decide +kernel
theorem dNr_isObject_42 : decode cNr_isObject 42 = .ok (.if_icmp .ge 17, 3) := by decide +kernel
theorem dNr_isObject_45 : decode cNr_isObject 45 = .ok (.iload_n 3, 1) := by decide +kernel
theorem dNr_isObject_46 : decode cNr_isObject 46 = .ok (.aload_n 0, 1) := by decide +kernel
theorem dNr_isObject_47 : decode cNr_isObject 47 = .ok (.iload_n 3, 1) := by decide +kernel
theorem dNr_isObject_48 : decode cNr_isObject 48 = .ok (.invokevirtual 150, 3) := by decide +kernel
theorem dNr_isObject_51 : decode cNr_isObject 51 = .ok (.iadd, 1) := by decide +kernel
theorem dNr_isObject_52 : decode cNr_isObject 52 = .ok (.istore_n 3, 1) := by decide +kernel
theorem dNr_isObject_53 : decode cNr_isObject 53 = .ok (.iinc 4 1, 3) := by decide +kernel
theorem dNr_isObject_56 : decode cNr_isObject 56 = .ok (.goto (-30), 3) := by decide +kernel
theorem dNr_isObject_59 : decode cNr_isObject 59 = .ok (.iload_n 3, 1) := by decide +kernel
theorem dNr_isObject_60 : decode cNr_isObject 60 = .ok (.iload_n 1, 1) := by decide +kernel
theorem dNr_isObject_61 : decode cNr_isObject 61 = .ok (.if_icmp .ne 7, 3) := by decide +kernel
theorem dNr_isObject_64 : decode cNr_isObject 64 = .ok (.iconst 1, 1) := by decide +kernel
theorem dNr_isObject_65 : decode cNr_isObject 65 = .ok (.goto 4, 3) := by decide +kernel
theorem dNr_isObject_68 : decode cNr_isObject 68 = .ok (.iconst 0, 1) := by decide +kernel
theorem dNr_isObject_69 : decode cNr_isObject 69 = .ok (.ireturn, 1) := by decide +kernel
theorem dNr_partOf_0 : decode cNr_partOf 0 = .ok (.iconst 0, 1) := by decide +kernel
theorem dNr_partOf_1 : decode cNr_partOf 1 = .ok (.istore_n 2, 1) := by decide +kernel
theorem dNr_partOf_2 : decode cNr_partOf 2 = .ok (.iload_n 2, 1) := by decide +kernel
theorem dNr_partOf_3 : decode cNr_partOf 3 = .ok (.iconst 4, 1) := by decide +kernel
theorem dNr_partOf_4 : decode cNr_partOf 4 = .ok (.if_icmp .ge 24, 3) := by decide +kernel
theorem dNr_partOf_7 : decode cNr_partOf 7 = .ok (.aload_n 0, 1) := by decide +kernel
theorem dNr_partOf_8 : decode cNr_partOf 8 = .ok (.getfield 11, 3) := by decide +kernel
theorem dNr_partOf_11 : decode cNr_partOf 11 = .ok (.iload_n 2, 1) := by decide +kernel
theorem dNr_partOf_12 : decode cNr_partOf 12 = .ok (.aaload, 1) := by decide +kernel
theorem dNr_partOf_13 : decode cNr_partOf 13 = .ok (.iload_n 1, 1) := by decide +kernel
theorem dNr_partOf_14 : decode cNr_partOf 14 = .ok (.invokevirtual 153, 3) := by decide +kernel
theorem dNr_partOf_17 : decode cNr_partOf 17 = .ok (.ifCond .eq 5, 3) := by decide +kernel
theorem dNr_partOf_20 : decode cNr_partOf 20 = .ok (.iload_n 2, 1) := by decide +kernel
theorem dNr_partOf_21 : decode cNr_partOf 21 = .ok (.ireturn, 1) := by decide +kernel
theorem dNr_partOf_22 : decode cNr_partOf 22 = .ok (.iinc 2 1, 3) := by decide +kernel
theorem dNr_partOf_25 : decode cNr_partOf 25 = .ok (.goto (-23), 3) := by decide +kernel
theorem dNr_partOf_28 : decode cNr_partOf 28 = .ok (.iconst 4, 1) := by decide +kernel
theorem dNr_partOf_29 : decode cNr_partOf 29 = .ok (.ireturn, 1) := by decide +kernel
theorem dPt_covers_0 : decode cPt_covers 0 = .ok (.iload_n 1, 1) := by decide +kernel
theorem dPt_covers_1 : decode cPt_covers 1 = .ok (.aload_n 0, 1) := by decide +kernel
theorem dPt_covers_2 : decode cPt_covers 2 = .ok (.getfield 7, 3) := by decide +kernel
theorem dPt_covers_5 : decode cPt_covers 5 = .ok (.if_icmp .lt 15, 3) := by decide +kernel
theorem dPt_covers_8 : decode cPt_covers 8 = .ok (.iload_n 1, 1) := by decide +kernel
theorem dPt_covers_9 : decode cPt_covers 9 = .ok (.aload_n 0, 1) := by decide +kernel
theorem dPt_covers_10 : decode cPt_covers 10 = .ok (.invokevirtual 25, 3) := by decide +kernel
theorem dPt_covers_13 : decode cPt_covers 13 = .ok (.if_icmp .ge 7, 3) := by decide +kernel
theorem dPt_covers_16 : decode cPt_covers 16 = .ok (.iconst 1, 1) := by decide +kernel
theorem dPt_covers_17 : decode cPt_covers 17 = .ok (.goto 4, 3) := by decide +kernel
theorem dPt_covers_20 : decode cPt_covers 20 = .ok (.iconst 0, 1) := by decide +kernel
theorem dPt_covers_21 : decode cPt_covers 21 = .ok (.ireturn, 1) := by decide +kernel
theorem dNr_sizeAt_0 : decode cNr_sizeAt 0 = .ok (.iconst 3, 1) := by decide +kernel
theorem dNr_sizeAt_1 : decode cNr_sizeAt 1 = .ok (.aload_n 0, 1) := by decide +kernel
theorem dNr_sizeAt_2 : decode cNr_sizeAt 2 = .ok (.getfield 23, 3) := by decide +kernel
theorem dNr_sizeAt_5 : decode cNr_sizeAt 5 = .ok (.iload_n 1, 1) := by decide +kernel
theorem dNr_sizeAt_6 : decode cNr_sizeAt 6 = .ok (.iaload, 1) := by decide +kernel
theorem dNr_sizeAt_7 : decode cNr_sizeAt 7 = .ok (.iadd, 1) := by decide +kernel
theorem dNr_sizeAt_8 : decode cNr_sizeAt 8 = .ok (.aload_n 0, 1) := by decide +kernel
theorem dNr_sizeAt_9 : decode cNr_sizeAt 9 = .ok (.getfield 23, 3) := by decide +kernel
theorem dNr_sizeAt_12 : decode cNr_sizeAt 12 = .ok (.iload_n 1, 1) := by decide +kernel
theorem dNr_sizeAt_13 : decode cNr_sizeAt 13 = .ok (.iconst 1, 1) := by decide +kernel
theorem dNr_sizeAt_14 : decode cNr_sizeAt 14 = .ok (.iadd, 1) := by decide +kernel
theorem dNr_sizeAt_15 : decode cNr_sizeAt 15 = .ok (.iaload, 1) := by decide +kernel
theorem dNr_sizeAt_16 : decode cNr_sizeAt 16 = .ok (.iadd, 1) := by decide +kernel
theorem dNr_sizeAt_17 : decode cNr_sizeAt 17 = .ok (.ireturn, 1) := by decide +kernel
theorem dNr_isNothingOrObject_0 : decode cNr_isNothingOrObject 0 = .ok (.iload_n 1, 1) := by decide +kernel
theorem dNr_isNothingOrObject_1 : decode cNr_isNothingOrObject 1 = .ok (.ifCond .eq 11, 3) := by decide +kernel
theorem dNr_isNothingOrObject_4 : decode cNr_isNothingOrObject 4 = .ok (.aload_n 0, 1) := by decide +kernel
theorem dNr_isNothingOrObject_5 : decode cNr_isNothingOrObject 5 = .ok (.iload_n 1, 1) := by decide +kernel
theorem dNr_isNothingOrObject_6 : decode cNr_isNothingOrObject 6 = .ok (.invokevirtual 139, 3) := by decide +kernel
theorem dNr_isNothingOrObject_9 : decode cNr_isNothingOrObject 9 = .ok (.ifCond .eq 7, 3) := by decide +kernel
theorem dNr_isNothingOrObject_12 : decode cNr_isNothingOrObject 12 = .ok (.iconst 1, 1) := by decide +kernel
theorem dNr_isNothingOrObject_13 : decode cNr_isNothingOrObject 13 = .ok (.goto 4, 3) := by decide +kernel
theorem dNr_isNothingOrObject_16 : decode cNr_isNothingOrObject 16 = .ok (.iconst 0, 1) := by decide +kernel
theorem dNr_isNothingOrObject_17 : decode cNr_isNothingOrObject 17 = .ok (.ireturn, 1) := by decide +kernel
theorem dNr_exchange_0 : decode cNr_exchange 0 = .ok (.aload_n 0, 1) := by decide +kernel
theorem dNr_exchange_1 : decode cNr_exchange 1 = .ok (.getfield 23, 3) := by decide +kernel
theorem dNr_exchange_4 : decode cNr_exchange 4 = .ok (.iload_n 1, 1) := by decide +kernel
theorem dNr_exchange_5 : decode cNr_exchange 5 = .ok (.iaload, 1) := by decide +kernel
theorem dNr_exchange_6 : decode cNr_exchange 6 = .ok (.istore_n 3, 1) := by decide +kernel
theorem dNr_exchange_7 : decode cNr_exchange 7 = .ok (.aload_n 0, 1) := by decide +kernel
theorem dNr_exchange_8 : decode cNr_exchange 8 = .ok (.getfield 23, 3) := by decide +kernel
theorem dNr_exchange_11 : decode cNr_exchange 11 = .ok (.iload_n 1, 1) := by decide +kernel
theorem dNr_exchange_12 : decode cNr_exchange 12 = .ok (.iload_n 2, 1) := by decide +kernel
theorem dNr_exchange_13 : decode cNr_exchange 13 = .ok (.iastore, 1) := by decide +kernel
theorem dNr_exchange_14 : decode cNr_exchange 14 = .ok (.iload_n 3, 1) := by decide +kernel
theorem dNr_exchange_15 : decode cNr_exchange 15 = .ok (.ireturn, 1) := by decide +kernel
theorem dNr_get_0 : decode cNr_get 0 = .ok (.aload_n 0, 1) := by decide +kernel
theorem dNr_get_1 : decode cNr_get 1 = .ok (.iload_n 1, 1) := by decide +kernel
theorem dNr_get_2 : decode cNr_get 2 = .ok (.iload_n 2, 1) := by decide +kernel
theorem dNr_get_3 : decode cNr_get 3 = .ok (.invokevirtual 84, 3) := by decide +kernel
theorem dNr_get_6 : decode cNr_get 6 = .ok (.istore_n 3, 1) := by decide +kernel
theorem dNr_get_7 : decode cNr_get 7 = .ok (.iload_n 3, 1) := by decide +kernel
theorem dNr_get_8 : decode cNr_get 8 = .ok (.ifCond .ne 13, 3) := by decide +kernel
theorem dNr_get_11 : decode cNr_get 11 = .ok (.new 92, 3) := by decide +kernel
theorem dNr_get_14 : decode cNr_get 14 = .ok (.dup, 1) := by decide +kernel
theorem dNr_get_15 : decode cNr_get 15 = .ok (.ldc 94, 2) := by decide +kernel
theorem dNr_get_17 : decode cNr_get 17 = .ok (.invokespecial 96, 3) := by decide +kernel
theorem dNr_get_20 : decode cNr_get 20 = .ok (.athrow, 1) := by decide +kernel
theorem dNr_get_21 : decode cNr_get 21 = .ok (.aload_n 0, 1) := by decide +kernel
theorem dNr_get_22 : decode cNr_get 22 = .ok (.getfield 23, 3) := by decide +kernel
theorem dNr_get_25 : decode cNr_get 25 = .ok (.iload_n 3, 1) := by decide +kernel
theorem dNr_get_26 : decode cNr_get 26 = .ok (.iaload, 1) := by decide +kernel
theorem dNr_get_27 : decode cNr_get 27 = .ok (.ireturn, 1) := by decide +kernel
theorem dNr_put_0 : decode cNr_put 0 = .ok (.aload_n 0, 1) := by decide +kernel
theorem dNr_put_1 : decode cNr_put 1 = .ok (.iload_n 1, 1) := by decide +kernel
theorem dNr_put_2 : decode cNr_put 2 = .ok (.iload_n 2, 1) := by decide +kernel
theorem dNr_put_3 : decode cNr_put 3 = .ok (.invokevirtual 100, 3) := by decide +kernel
theorem dNr_put_6 : decode cNr_put 6 = .ok (.istore 4, 2) := by decide +kernel
theorem dNr_put_8 : decode cNr_put 8 = .ok (.iload 4, 2) := by decide +kernel
theorem dNr_put_10 : decode cNr_put 10 = .ok (.ifCond .ne 13, 3) := by decide +kernel
theorem dNr_put_13 : decode cNr_put 13 = .ok (.new 92, 3) := by decide +kernel
theorem dNr_put_16 : decode cNr_put 16 = .ok (.dup, 1) := by decide +kernel
theorem dNr_put_17 : decode cNr_put 17 = .ok (.ldc 103, 2) := by decide +kernel
theorem dNr_put_19 : decode cNr_put 19 = .ok (.invokespecial 96, 3) := by decide +kernel
theorem dNr_put_22 : decode cNr_put 22 = .ok (.athrow, 1) := by decide +kernel
theorem dNr_put_23 : decode cNr_put 23 = .ok (.aload_n 0, 1) := by decide +kernel
theorem dNr_put_24 : decode cNr_put 24 = .ok (.iload 4, 2) := by decide +kernel
theorem dNr_put_26 : decode cNr_put 26 = .ok (.iload_n 3, 1) := by decide +kernel
theorem dNr_put_27 : decode cNr_put 27 = .ok (.invokevirtual 97, 3) := by decide +kernel
theorem dNr_put_30 : decode cNr_put 30 = .ok (.ireturn, 1) := by decide +kernel
theorem dNr_wordCell_0 : decode cNr_wordCell 0 = .ok (.aload_n 0, 1) := by decide +kernel
theorem dNr_wordCell_1 : decode cNr_wordCell 1 = .ok (.iload_n 1, 1) := by decide +kernel
theorem dNr_wordCell_2 : decode cNr_wordCell 2 = .ok (.invokevirtual 139, 3) := by decide +kernel
theorem dNr_wordCell_5 : decode cNr_wordCell 5 = .ok (.ifCond .eq 19, 3) := by decide +kernel
theorem dNr_wordCell_8 : decode cNr_wordCell 8 = .ok (.iload_n 2, 1) := by decide +kernel
theorem dNr_wordCell_9 : decode cNr_wordCell 9 = .ok (.ifCond .lt 15, 3) := by decide +kernel
theorem dNr_wordCell_12 : decode cNr_wordCell 12 = .ok (.iload_n 2, 1) := by decide +kernel
theorem dNr_wordCell_13 : decode cNr_wordCell 13 = .ok (.aload_n 0, 1) := by decide +kernel
theorem dNr_wordCell_14 : decode cNr_wordCell 14 = .ok (.getfield 23, 3) := by decide +kernel
theorem dNr_wordCell_17 : decode cNr_wordCell 17 = .ok (.iload_n 1, 1) := by decide +kernel
theorem dNr_wordCell_18 : decode cNr_wordCell 18 = .ok (.iconst 1, 1) := by decide +kernel
theorem dNr_wordCell_19 : decode cNr_wordCell 19 = .ok (.iadd, 1) := by decide +kernel
theorem dNr_wordCell_20 : decode cNr_wordCell 20 = .ok (.iaload, 1) := by decide +kernel
theorem dNr_wordCell_21 : decode cNr_wordCell 21 = .ok (.if_icmp .lt 5, 3) := by decide +kernel
theorem dNr_wordCell_24 : decode cNr_wordCell 24 = .ok (.iconst 0, 1) := by decide +kernel
theorem dNr_wordCell_25 : decode cNr_wordCell 25 = .ok (.ireturn, 1) := by decide +kernel
theorem dNr_wordCell_26 : decode cNr_wordCell 26 = .ok (.iload_n 1, 1) := by decide +kernel
theorem dNr_wordCell_27 : decode cNr_wordCell 27 = .ok (.iconst 3, 1) := by decide +kernel
theorem dNr_wordCell_28 : decode cNr_wordCell 28 = .ok (.iadd, 1) := by decide +kernel
theorem dNr_wordCell_29 : decode cNr_wordCell 29 = .ok (.aload_n 0, 1) := by decide +kernel
theorem dNr_wordCell_30 : decode cNr_wordCell 30 = .ok (.getfield 23, 3) := by decide +kernel
theorem dNr_wordCell_33 : decode cNr_wordCell 33 = .ok (.iload_n 1, 1) := by decide +kernel
theorem dNr_wordCell_34 : decode cNr_wordCell 34 = .ok (.iaload, 1) := by decide +kernel
theorem dNr_wordCell_35 : decode cNr_wordCell 35 = .ok (.iadd, 1) := by decide +kernel
theorem dNr_wordCell_36 : decode cNr_wordCell 36 = .ok (.iload_n 2, 1) := by decide +kernel
theorem dNr_wordCell_37 : decode cNr_wordCell 37 = .ok (.iadd, 1) := by decide +kernel
theorem dNr_wordCell_38 : decode cNr_wordCell 38 = .ok (.ireturn, 1) := by decide +kernel
theorem dNr_word_0 : decode cNr_word 0 = .ok (.aload_n 0, 1) := by decide +kernel
theorem dNr_word_1 : decode cNr_word 1 = .ok (.iload_n 1, 1) := by decide +kernel
theorem dNr_word_2 : decode cNr_word 2 = .ok (.iload_n 2, 1) := by decide +kernel
theorem dNr_word_3 : decode cNr_word 3 = .ok (.invokevirtual 100, 3) := by decide +kernel
theorem dNr_word_6 : decode cNr_word 6 = .ok (.istore_n 3, 1) := by decide +kernel
theorem dNr_word_7 : decode cNr_word 7 = .ok (.iload_n 3, 1) := by decide +kernel
theorem dNr_word_8 : decode cNr_word 8 = .ok (.ifCond .ne 13, 3) := by decide +kernel
theorem dNr_word_11 : decode cNr_word 11 = .ok (.new 92, 3) := by decide +kernel
theorem dNr_word_14 : decode cNr_word 14 = .ok (.dup, 1) := by decide +kernel
theorem dNr_word_15 : decode cNr_word 15 = .ok (.ldc 103, 2) := by decide +kernel
theorem dNr_word_17 : decode cNr_word 17 = .ok (.invokespecial 96, 3) := by decide +kernel
theorem dNr_word_20 : decode cNr_word 20 = .ok (.athrow, 1) := by decide +kernel
theorem dNr_word_21 : decode cNr_word 21 = .ok (.aload_n 0, 1) := by decide +kernel
theorem dNr_word_22 : decode cNr_word 22 = .ok (.getfield 23, 3) := by decide +kernel
theorem dNr_word_25 : decode cNr_word 25 = .ok (.iload_n 3, 1) := by decide +kernel
theorem dNr_word_26 : decode cNr_word 26 = .ok (.iaload, 1) := by decide +kernel
theorem dNr_word_27 : decode cNr_word 27 = .ok (.ireturn, 1) := by decide +kernel
theorem dNr_root_0 : decode cNr_root 0 = .ok (.iload_n 1, 1) := by decide +kernel
theorem dNr_root_1 : decode cNr_root 1 = .ok (.invokestatic 105, 3) := by decide +kernel
theorem dNr_root_4 : decode cNr_root 4 = .ok (.ifCond .eq 11, 3) := by decide +kernel
theorem dNr_root_7 : decode cNr_root 7 = .ok (.aload_n 0, 1) := by decide +kernel
theorem dNr_root_8 : decode cNr_root 8 = .ok (.iload_n 2, 1) := by decide +kernel
theorem dNr_root_9 : decode cNr_root 9 = .ok (.invokevirtual 88, 3) := by decide +kernel
theorem dNr_root_12 : decode cNr_root 12 = .ok (.ifCond .ne 13, 3) := by decide +kernel
theorem dNr_root_15 : decode cNr_root 15 = .ok (.new 92, 3) := by decide +kernel
theorem dNr_root_18 : decode cNr_root 18 = .ok (.dup, 1) := by decide +kernel
theorem dNr_root_19 : decode cNr_root 19 = .ok (.ldc 108, 2) := by decide +kernel
theorem dNr_root_21 : decode cNr_root 21 = .ok (.invokespecial 96, 3) := by decide +kernel
theorem dNr_root_24 : decode cNr_root 24 = .ok (.athrow, 1) := by decide +kernel
theorem dNr_root_25 : decode cNr_root 25 = .ok (.aload_n 0, 1) := by decide +kernel
theorem dNr_root_26 : decode cNr_root 26 = .ok (.getfield 16, 3) := by decide +kernel
theorem dNr_root_29 : decode cNr_root 29 = .ok (.iload_n 1, 1) := by decide +kernel
theorem dNr_root_30 : decode cNr_root 30 = .ok (.iaload, 1) := by decide +kernel
theorem dNr_root_31 : decode cNr_root 31 = .ok (.istore_n 3, 1) := by decide +kernel
theorem dNr_root_32 : decode cNr_root 32 = .ok (.aload_n 0, 1) := by decide +kernel
theorem dNr_root_33 : decode cNr_root 33 = .ok (.getfield 16, 3) := by decide +kernel
theorem dNr_root_36 : decode cNr_root 36 = .ok (.iload_n 1, 1) := by decide +kernel
theorem dNr_root_37 : decode cNr_root 37 = .ok (.iload_n 2, 1) := by decide +kernel
theorem dNr_root_38 : decode cNr_root 38 = .ok (.iastore, 1) := by decide +kernel
theorem dNr_root_39 : decode cNr_root 39 = .ok (.iload_n 3, 1) := by decide +kernel
theorem dNr_root_40 : decode cNr_root 40 = .ok (.ireturn, 1) := by decide +kernel
theorem dNr_isRoot_0 : decode cNr_isRoot 0 = .ok (.iload_n 0, 1) := by decide +kernel
theorem dNr_isRoot_1 : decode cNr_isRoot 1 = .ok (.ifCond .lt 13, 3) := by decide +kernel
theorem dNr_isRoot_4 : decode cNr_isRoot 4 = .ok (.iload_n 0, 1) := by decide +kernel
theorem dNr_isRoot_5 : decode cNr_isRoot 5 = .ok (.bipush 16, 2) := by decide +kernel
theorem dNr_isRoot_7 : decode cNr_isRoot 7 = .ok (.if_icmp .ge 7, 3) := by decide +kernel
theorem dNr_isRoot_10 : decode cNr_isRoot 10 = .ok (.iconst 1, 1) := by decide +kernel
theorem dNr_isRoot_11 : decode cNr_isRoot 11 = .ok (.goto 4, 3) := by decide +kernel
theorem dNr_isRoot_14 : decode cNr_isRoot 14 = .ok (.iconst 0, 1) := by decide +kernel
theorem dNr_isRoot_15 : decode cNr_isRoot 15 = .ok (.ireturn, 1) := by decide +kernel
theorem dNr_rooted_0 : decode cNr_rooted 0 = .ok (.iload_n 1, 1) := by decide +kernel
theorem dNr_rooted_1 : decode cNr_rooted 1 = .ok (.invokestatic 105, 3) := by decide +kernel
theorem dNr_rooted_4 : decode cNr_rooted 4 = .ok (.ifCond .ne 13, 3) := by decide +kernel
theorem dNr_rooted_7 : decode cNr_rooted 7 = .ok (.new 92, 3) := by decide +kernel
theorem dNr_rooted_10 : decode cNr_rooted 10 = .ok (.dup, 1) := by decide +kernel
theorem dNr_rooted_11 : decode cNr_rooted 11 = .ok (.ldc 110, 2) := by decide +kernel
theorem dNr_rooted_13 : decode cNr_rooted 13 = .ok (.invokespecial 96, 3) := by decide +kernel
theorem dNr_rooted_16 : decode cNr_rooted 16 = .ok (.athrow, 1) := by decide +kernel
theorem dNr_rooted_17 : decode cNr_rooted 17 = .ok (.aload_n 0, 1) := by decide +kernel
theorem dNr_rooted_18 : decode cNr_rooted 18 = .ok (.getfield 16, 3) := by decide +kernel
theorem dNr_rooted_21 : decode cNr_rooted 21 = .ok (.iload_n 1, 1) := by decide +kernel
theorem dNr_rooted_22 : decode cNr_rooted 22 = .ok (.iaload, 1) := by decide +kernel
theorem dNr_rooted_23 : decode cNr_rooted 23 = .ok (.ireturn, 1) := by decide +kernel
theorem dNr_collect_0 : decode cNr_collect 0 = .ok (.aload_n 0, 1) := by decide +kernel
theorem dNr_collect_1 : decode cNr_collect 1 = .ok (.getfield 11, 3) := by decide +kernel
theorem dNr_collect_4 : decode cNr_collect 4 = .ok (.iconst 0, 1) := by decide +kernel
theorem dNr_collect_5 : decode cNr_collect 5 = .ok (.aaload, 1) := by decide +kernel
theorem dNr_collect_6 : decode cNr_collect 6 = .ok (.astore_n 1, 1) := by decide +kernel
theorem dNr_collect_7 : decode cNr_collect 7 = .ok (.aload_n 0, 1) := by decide +kernel
theorem dNr_collect_8 : decode cNr_collect 8 = .ok (.getfield 11, 3) := by decide +kernel
theorem dNr_collect_11 : decode cNr_collect 11 = .ok (.iconst 1, 1) := by decide +kernel
theorem dNr_collect_12 : decode cNr_collect 12 = .ok (.aload_n 0, 1) := by decide +kernel
theorem dNr_collect_13 : decode cNr_collect 13 = .ok (.getfield 58, 3) := by decide +kernel
theorem dNr_collect_16 : decode cNr_collect 16 = .ok (.iadd, 1) := by decide +kernel
theorem dNr_collect_17 : decode cNr_collect 17 = .ok (.aaload, 1) := by decide +kernel
theorem dNr_collect_18 : decode cNr_collect 18 = .ok (.astore_n 2, 1) := by decide +kernel
theorem dNr_collect_19 : decode cNr_collect 19 = .ok (.aload_n 0, 1) := by decide +kernel
theorem dNr_collect_20 : decode cNr_collect 20 = .ok (.getfield 11, 3) := by decide +kernel
theorem dNr_collect_23 : decode cNr_collect 23 = .ok (.iconst 3, 1) := by decide +kernel
theorem dNr_collect_24 : decode cNr_collect 24 = .ok (.aaload, 1) := by decide +kernel
theorem dNr_collect_25 : decode cNr_collect 25 = .ok (.invokevirtual 74, 3) := by decide +kernel
theorem dNr_collect_28 : decode cNr_collect 28 = .ok (.aload_n 1, 1) := by decide +kernel
theorem dNr_collect_29 : decode cNr_collect 29 = .ok (.getfield 112, 3) := by decide +kernel
theorem dNr_collect_32 : decode cNr_collect 32 = .ok (.aload_n 2, 1) := by decide +kernel
theorem dNr_collect_33 : decode cNr_collect 33 = .ok (.getfield 112, 3) := by decide +kernel
theorem dNr_collect_36 : decode cNr_collect 36 = .ok (.iadd, 1) := by decide +kernel
theorem dNr_collect_37 : decode cNr_collect 37 = .ok (.if_icmp .ge 13, 3) := by decide +kernel
theorem dNr_collect_40 : decode cNr_collect 40 = .ok (.new 115, 3) := by decide +kernel
theorem dNr_collect_43 : decode cNr_collect 43 = .ok (.dup, 1) := by decide +kernel
theorem dNr_collect_44 : decode cNr_collect 44 = .ok (.ldc 117, 2) := by decide +kernel
theorem dNr_collect_46 : decode cNr_collect 46 = .ok (.invokespecial 119, 3) := by decide +kernel
theorem dNr_collect_49 : decode cNr_collect 49 = .ok (.athrow, 1) := by decide +kernel
theorem dNr_collect_50 : decode cNr_collect 50 = .ok (.aload_n 0, 1) := by decide +kernel
theorem dNr_collect_51 : decode cNr_collect 51 = .ok (.getfield 11, 3) := by decide +kernel
theorem dNr_collect_54 : decode cNr_collect 54 = .ok (.iconst 3, 1) := by decide +kernel
theorem dNr_collect_55 : decode cNr_collect 55 = .ok (.aaload, 1) := by decide +kernel
theorem dNr_collect_56 : decode cNr_collect 56 = .ok (.getfield 120, 3) := by decide +kernel
theorem dNr_collect_59 : decode cNr_collect 59 = .ok (.istore_n 3, 1) := by decide +kernel
theorem dNr_collect_60 : decode cNr_collect 60 = .ok (.aload_n 0, 1) := by decide +kernel
theorem dNr_collect_61 : decode cNr_collect 61 = .ok (.iconst 0, 1) := by decide +kernel
theorem dNr_collect_62 : decode cNr_collect 62 = .ok (.putfield 123, 3) := by decide +kernel
theorem dNr_collect_65 : decode cNr_collect 65 = .ok (.aload_n 0, 1) := by decide +kernel
theorem dNr_collect_66 : decode cNr_collect 66 = .ok (.invokevirtual 126, 3) := by decide +kernel
theorem dNr_collect_69 : decode cNr_collect 69 = .ok (.aload_n 0, 1) := by decide +kernel
theorem dNr_collect_70 : decode cNr_collect 70 = .ok (.iload_n 3, 1) := by decide +kernel
theorem dNr_collect_71 : decode cNr_collect 71 = .ok (.invokevirtual 129, 3) := by decide +kernel
theorem dNr_collect_74 : decode cNr_collect 74 = .ok (.aload_n 0, 1) := by decide +kernel
theorem dNr_collect_75 : decode cNr_collect 75 = .ok (.invokevirtual 133, 3) := by decide +kernel
theorem dNr_collect_78 : decode cNr_collect 78 = .ok (.aload_n 1, 1) := by decide +kernel
theorem dNr_collect_79 : decode cNr_collect 79 = .ok (.invokevirtual 136, 3) := by decide +kernel
theorem dNr_collect_82 : decode cNr_collect 82 = .ok (.aload_n 2, 1) := by decide +kernel
theorem dNr_collect_83 : decode cNr_collect 83 = .ok (.invokevirtual 136, 3) := by decide +kernel
theorem dNr_collect_86 : decode cNr_collect 86 = .ok (.aload_n 0, 1) := by decide +kernel
theorem dNr_collect_87 : decode cNr_collect 87 = .ok (.iconst 1, 1) := by decide +kernel
theorem dNr_collect_88 : decode cNr_collect 88 = .ok (.aload_n 0, 1) := by decide +kernel
theorem dNr_collect_89 : decode cNr_collect 89 = .ok (.getfield 58, 3) := by decide +kernel
theorem dNr_collect_92 : decode cNr_collect 92 = .ok (.isub, 1) := by decide +kernel
theorem dNr_collect_93 : decode cNr_collect 93 = .ok (.putfield 58, 3) := by decide +kernel
theorem dNr_collect_96 : decode cNr_collect 96 = .ok (.aload_n 0, 1) := by decide +kernel
theorem dNr_collect_97 : decode cNr_collect 97 = .ok (.dup, 1) := by decide +kernel
theorem dNr_collect_98 : decode cNr_collect 98 = .ok (.getfield 61, 3) := by decide +kernel
theorem dNr_collect_101 : decode cNr_collect 101 = .ok (.iconst 1, 1) := by decide +kernel
theorem dNr_collect_102 : decode cNr_collect 102 = .ok (.iadd, 1) := by decide +kernel
theorem dNr_collect_103 : decode cNr_collect 103 = .ok (.putfield 61, 3) := by decide +kernel
theorem dNr_collect_106 : decode cNr_collect 106 = .ok (.aload_n 0, 1) := by decide +kernel
theorem dNr_collect_107 : decode cNr_collect 107 = .ok (.getfield 123, 3) := by decide +kernel
theorem dNr_collect_110 : decode cNr_collect 110 = .ok (.ireturn, 1) := by decide +kernel
theorem dNr_followRoots_0 : decode cNr_followRoots 0 = .ok (.iconst 0, 1) := by decide +kernel
theorem dNr_followRoots_1 : decode cNr_followRoots 1 = .ok (.istore_n 1, 1) := by decide +kernel
theorem dNr_followRoots_2 : decode cNr_followRoots 2 = .ok (.iload_n 1, 1) := by decide +kernel
theorem dNr_followRoots_3 : decode cNr_followRoots 3 = .ok (.bipush 16, 2) := by decide +kernel
theorem dNr_followRoots_5 : decode cNr_followRoots 5 = .ok (.if_icmp .ge 25, 3) := by decide +kernel
theorem dNr_followRoots_8 : decode cNr_followRoots 8 = .ok (.aload_n 0, 1) := by decide +kernel
theorem dNr_followRoots_9 : decode cNr_followRoots 9 = .ok (.getfield 16, 3) := by decide +kernel
theorem dNr_followRoots_12 : decode cNr_followRoots 12 = .ok (.iload_n 1, 1) := by decide +kernel
theorem dNr_followRoots_13 : decode cNr_followRoots 13 = .ok (.aload_n 0, 1) := by decide +kernel
theorem dNr_followRoots_14 : decode cNr_followRoots 14 = .ok (.aload_n 0, 1) := by decide +kernel
theorem dNr_followRoots_15 : decode cNr_followRoots 15 = .ok (.getfield 16, 3) := by decide +kernel
theorem dNr_followRoots_18 : decode cNr_followRoots 18 = .ok (.iload_n 1, 1) := by decide +kernel
theorem dNr_followRoots_19 : decode cNr_followRoots 19 = .ok (.iaload, 1) := by decide +kernel
theorem dNr_followRoots_20 : decode cNr_followRoots 20 = .ok (.invokevirtual 167, 3) := by decide +kernel
theorem dNr_followRoots_23 : decode cNr_followRoots 23 = .ok (.iastore, 1) := by decide +kernel
theorem dNr_followRoots_24 : decode cNr_followRoots 24 = .ok (.iinc 1 1, 3) := by decide +kernel
theorem dNr_followRoots_27 : decode cNr_followRoots 27 = .ok (.goto (-25), 3) := by decide +kernel
theorem dNr_followRoots_30 : decode cNr_followRoots 30 = .ok (.return_, 1) := by decide +kernel
theorem dNr_follow_0 : decode cNr_follow 0 = .ok (.aload_n 0, 1) := by decide +kernel
theorem dNr_follow_1 : decode cNr_follow 1 = .ok (.iload_n 1, 1) := by decide +kernel
theorem dNr_follow_2 : decode cNr_follow 2 = .ok (.invokevirtual 173, 3) := by decide +kernel
theorem dNr_follow_5 : decode cNr_follow 5 = .ok (.ifCond .ne 5, 3) := by decide +kernel
theorem dNr_follow_8 : decode cNr_follow 8 = .ok (.iload_n 1, 1) := by decide +kernel
theorem dNr_follow_9 : decode cNr_follow 9 = .ok (.ireturn, 1) := by decide +kernel
theorem dNr_follow_10 : decode cNr_follow 10 = .ok (.aload_n 0, 1) := by decide +kernel
theorem dNr_follow_11 : decode cNr_follow 11 = .ok (.getfield 23, 3) := by decide +kernel
theorem dNr_follow_14 : decode cNr_follow 14 = .ok (.iload_n 1, 1) := by decide +kernel
theorem dNr_follow_15 : decode cNr_follow 15 = .ok (.iaload, 1) := by decide +kernel
theorem dNr_follow_16 : decode cNr_follow 16 = .ok (.ifCond .ge 13, 3) := by decide +kernel
theorem dNr_follow_19 : decode cNr_follow 19 = .ok (.aload_n 0, 1) := by decide +kernel
theorem dNr_follow_20 : decode cNr_follow 20 = .ok (.getfield 23, 3) := by decide +kernel
theorem dNr_follow_23 : decode cNr_follow 23 = .ok (.iload_n 1, 1) := by decide +kernel
theorem dNr_follow_24 : decode cNr_follow 24 = .ok (.iaload, 1) := by decide +kernel
theorem dNr_follow_25 : decode cNr_follow 25 = .ok (.ineg, 1) := by decide +kernel
theorem dNr_follow_26 : decode cNr_follow 26 = .ok (.goto 8, 3) := by decide +kernel
theorem dNr_follow_29 : decode cNr_follow 29 = .ok (.aload_n 0, 1) := by decide +kernel
theorem dNr_follow_30 : decode cNr_follow 30 = .ok (.iload_n 1, 1) := by decide +kernel
theorem dNr_follow_31 : decode cNr_follow 31 = .ok (.invokevirtual 176, 3) := by decide +kernel
theorem dNr_follow_34 : decode cNr_follow 34 = .ok (.ireturn, 1) := by decide +kernel
theorem dNr_isYoung_0 : decode cNr_isYoung 0 = .ok (.aload_n 0, 1) := by decide +kernel
theorem dNr_isYoung_1 : decode cNr_isYoung 1 = .ok (.getfield 11, 3) := by decide +kernel
theorem dNr_isYoung_4 : decode cNr_isYoung 4 = .ok (.iconst 0, 1) := by decide +kernel
theorem dNr_isYoung_5 : decode cNr_isYoung 5 = .ok (.aaload, 1) := by decide +kernel
theorem dNr_isYoung_6 : decode cNr_isYoung 6 = .ok (.iload_n 1, 1) := by decide +kernel
theorem dNr_isYoung_7 : decode cNr_isYoung 7 = .ok (.invokevirtual 153, 3) := by decide +kernel
theorem dNr_isYoung_10 : decode cNr_isYoung 10 = .ok (.ifCond .ne 21, 3) := by decide +kernel
theorem dNr_isYoung_13 : decode cNr_isYoung 13 = .ok (.aload_n 0, 1) := by decide +kernel
theorem dNr_isYoung_14 : decode cNr_isYoung 14 = .ok (.getfield 11, 3) := by decide +kernel
theorem dNr_isYoung_17 : decode cNr_isYoung 17 = .ok (.iconst 1, 1) := by decide +kernel
theorem dNr_isYoung_18 : decode cNr_isYoung 18 = .ok (.aload_n 0, 1) := by decide +kernel
theorem dNr_isYoung_19 : decode cNr_isYoung 19 = .ok (.getfield 58, 3) := by decide +kernel
theorem dNr_isYoung_22 : decode cNr_isYoung 22 = .ok (.iadd, 1) := by decide +kernel
theorem dNr_isYoung_23 : decode cNr_isYoung 23 = .ok (.aaload, 1) := by decide +kernel
theorem dNr_isYoung_24 : decode cNr_isYoung 24 = .ok (.iload_n 1, 1) := by decide +kernel
theorem dNr_isYoung_25 : decode cNr_isYoung 25 = .ok (.invokevirtual 153, 3) := by decide +kernel
theorem dNr_isYoung_28 : decode cNr_isYoung 28 = .ok (.ifCond .eq 7, 3) := by decide +kernel
theorem dNr_isYoung_31 : decode cNr_isYoung 31 = .ok (.iconst 1, 1) := by decide +kernel
theorem dNr_isYoung_32 : decode cNr_isYoung 32 = .ok (.goto 4, 3) := by decide +kernel
theorem dNr_isYoung_35 : decode cNr_isYoung 35 = .ok (.iconst 0, 1) := by decide +kernel
theorem dNr_isYoung_36 : decode cNr_isYoung 36 = .ok (.ireturn, 1) := by decide +kernel
theorem dNr_copyOf_0 : decode cNr_copyOf 0 = .ok (.aload_n 0, 1) := by decide +kernel
theorem dNr_copyOf_1 : decode cNr_copyOf 1 = .ok (.iload_n 1, 1) := by decide +kernel
theorem dNr_copyOf_2 : decode cNr_copyOf 2 = .ok (.invokevirtual 150, 3) := by decide +kernel
theorem dNr_copyOf_5 : decode cNr_copyOf 5 = .ok (.istore_n 2, 1) := by decide +kernel
theorem dNr_copyOf_6 : decode cNr_copyOf 6 = .ok (.aload_n 0, 1) := by decide +kernel
theorem dNr_copyOf_7 : decode cNr_copyOf 7 = .ok (.getfield 11, 3) := by decide +kernel
theorem dNr_copyOf_10 : decode cNr_copyOf 10 = .ok (.iconst 2, 1) := by decide +kernel
theorem dNr_copyOf_11 : decode cNr_copyOf 11 = .ok (.aload_n 0, 1) := by decide +kernel
theorem dNr_copyOf_12 : decode cNr_copyOf 12 = .ok (.getfield 58, 3) := by decide +kernel
theorem dNr_copyOf_15 : decode cNr_copyOf 15 = .ok (.isub, 1) := by decide +kernel
theorem dNr_copyOf_16 : decode cNr_copyOf 16 = .ok (.aaload, 1) := by decide +kernel
theorem dNr_copyOf_17 : decode cNr_copyOf 17 = .ok (.astore_n 3, 1) := by decide +kernel
theorem dNr_copyOf_18 : decode cNr_copyOf 18 = .ok (.aload_n 0, 1) := by decide +kernel
theorem dNr_copyOf_19 : decode cNr_copyOf 19 = .ok (.getfield 23, 3) := by decide +kernel
theorem dNr_copyOf_22 : decode cNr_copyOf 22 = .ok (.iload_n 1, 1) := by decide +kernel
theorem dNr_copyOf_23 : decode cNr_copyOf 23 = .ok (.iconst 2, 1) := by decide +kernel
theorem dNr_copyOf_24 : decode cNr_copyOf 24 = .ok (.iadd, 1) := by decide +kernel
theorem dNr_copyOf_25 : decode cNr_copyOf 25 = .ok (.iaload, 1) := by decide +kernel
theorem dNr_copyOf_26 : decode cNr_copyOf 26 = .ok (.aload_n 0, 1) := by decide +kernel
theorem dNr_copyOf_27 : decode cNr_copyOf 27 = .ok (.getfield 26, 3) := by decide +kernel
theorem dNr_copyOf_30 : decode cNr_copyOf 30 = .ok (.if_icmp .ge 15, 3) := by decide +kernel
theorem dNr_copyOf_33 : decode cNr_copyOf 33 = .ok (.aload_n 3, 1) := by decide +kernel
theorem dNr_copyOf_34 : decode cNr_copyOf 34 = .ok (.invokevirtual 74, 3) := by decide +kernel
theorem dNr_copyOf_37 : decode cNr_copyOf 37 = .ok (.iload_n 2, 1) := by decide +kernel
theorem dNr_copyOf_38 : decode cNr_copyOf 38 = .ok (.if_icmp .lt 7, 3) := by decide +kernel
theorem dNr_copyOf_41 : decode cNr_copyOf 41 = .ok (.iconst 1, 1) := by decide +kernel
theorem dNr_copyOf_42 : decode cNr_copyOf 42 = .ok (.goto 4, 3) := by decide +kernel
theorem dNr_copyOf_45 : decode cNr_copyOf 45 = .ok (.iconst 0, 1) := by decide +kernel
theorem dNr_copyOf_46 : decode cNr_copyOf 46 = .ok (.istore 4, 2) := by decide +kernel
theorem dNr_copyOf_48 : decode cNr_copyOf 48 = .ok (.iload 4, 2) := by decide +kernel
theorem dNr_copyOf_50 : decode cNr_copyOf 50 = .ok (.ifCond .eq 11, 3) := by decide +kernel
theorem dNr_copyOf_53 : decode cNr_copyOf 53 = .ok (.aload_n 3, 1) := by decide +kernel
theorem dNr_copyOf_54 : decode cNr_copyOf 54 = .ok (.iload_n 2, 1) := by decide +kernel
theorem dNr_copyOf_55 : decode cNr_copyOf 55 = .ok (.invokevirtual 77, 3) := by decide +kernel
theorem dNr_copyOf_58 : decode cNr_copyOf 58 = .ok (.goto 13, 3) := by decide +kernel
theorem dNr_copyOf_61 : decode cNr_copyOf 61 = .ok (.aload_n 0, 1) := by decide +kernel
theorem dNr_copyOf_62 : decode cNr_copyOf 62 = .ok (.getfield 11, 3) := by decide +kernel
theorem dNr_copyOf_65 : decode cNr_copyOf 65 = .ok (.iconst 3, 1) := by decide +kernel
theorem dNr_copyOf_66 : decode cNr_copyOf 66 = .ok (.aaload, 1) := by decide +kernel
theorem dNr_copyOf_67 : decode cNr_copyOf 67 = .ok (.iload_n 2, 1) := by decide +kernel
theorem dNr_copyOf_68 : decode cNr_copyOf 68 = .ok (.invokevirtual 77, 3) := by decide +kernel
theorem dNr_copyOf_71 : decode cNr_copyOf 71 = .ok (.istore 5, 2) := by decide +kernel
theorem dNr_copyOf_73 : decode cNr_copyOf 73 = .ok (.aload_n 0, 1) := by decide +kernel
theorem dNr_copyOf_74 : decode cNr_copyOf 74 = .ok (.getfield 23, 3) := by decide +kernel
theorem dNr_copyOf_77 : decode cNr_copyOf 77 = .ok (.iload_n 1, 1) := by decide +kernel
theorem dNr_copyOf_78 : decode cNr_copyOf 78 = .ok (.aload_n 0, 1) := by decide +kernel
theorem dNr_copyOf_79 : decode cNr_copyOf 79 = .ok (.getfield 23, 3) := by decide +kernel
theorem dNr_copyOf_82 : decode cNr_copyOf 82 = .ok (.iload 5, 2) := by decide +kernel
theorem dNr_copyOf_84 : decode cNr_copyOf 84 = .ok (.iload_n 2, 1) := by decide +kernel
theorem dNr_copyOf_85 : decode cNr_copyOf 85 = .ok (.invokestatic 179, 3) := by decide +kernel
theorem dNr_copyOf_88 : decode cNr_copyOf 88 = .ok (.iload 4, 2) := by decide +kernel
theorem dNr_copyOf_90 : decode cNr_copyOf 90 = .ok (.ifCond .eq 29, 3) := by decide +kernel
theorem dNr_copyOf_93 : decode cNr_copyOf 93 = .ok (.aload_n 0, 1) := by decide +kernel
theorem dNr_copyOf_94 : decode cNr_copyOf 94 = .ok (.getfield 23, 3) := by decide +kernel
theorem dNr_copyOf_97 : decode cNr_copyOf 97 = .ok (.iload 5, 2) := by decide +kernel
theorem dNr_copyOf_99 : decode cNr_copyOf 99 = .ok (.iconst 2, 1) := by decide +kernel
theorem dNr_copyOf_100 : decode cNr_copyOf 100 = .ok (.iadd, 1) := by decide +kernel
theorem dNr_copyOf_101 : decode cNr_copyOf 101 = .ok (.dup2, 1) := by decide +kernel
theorem dNr_copyOf_102 : decode cNr_copyOf 102 = .ok (.iaload, 1) := by decide +kernel
theorem dNr_copyOf_103 : decode cNr_copyOf 103 = .ok (.iconst 1, 1) := by decide +kernel
theorem dNr_copyOf_104 : decode cNr_copyOf 104 = .ok (.iadd, 1) := by decide +kernel
theorem dNr_copyOf_105 : decode cNr_copyOf 105 = .ok (.iastore, 1) := by decide +kernel
theorem dNr_copyOf_106 : decode cNr_copyOf 106 = .ok (.aload_n 0, 1) := by decide +kernel
theorem dNr_copyOf_107 : decode cNr_copyOf 107 = .ok (.dup, 1) := by decide +kernel
theorem dNr_copyOf_108 : decode cNr_copyOf 108 = .ok (.getfield 64, 3) := by decide +kernel
theorem dNr_copyOf_111 : decode cNr_copyOf 111 = .ok (.iconst 1, 1) := by decide +kernel
theorem dNr_copyOf_112 : decode cNr_copyOf 112 = .ok (.iadd, 1) := by decide +kernel
theorem dNr_copyOf_113 : decode cNr_copyOf 113 = .ok (.putfield 64, 3) := by decide +kernel
theorem dNr_copyOf_116 : decode cNr_copyOf 116 = .ok (.goto 13, 3) := by decide +kernel
theorem dNr_copyOf_119 : decode cNr_copyOf 119 = .ok (.aload_n 0, 1) := by decide +kernel
theorem dNr_copyOf_120 : decode cNr_copyOf 120 = .ok (.dup, 1) := by decide +kernel
theorem dNr_copyOf_121 : decode cNr_copyOf 121 = .ok (.getfield 67, 3) := by decide +kernel
theorem dNr_copyOf_124 : decode cNr_copyOf 124 = .ok (.iconst 1, 1) := by decide +kernel
theorem dNr_copyOf_125 : decode cNr_copyOf 125 = .ok (.iadd, 1) := by decide +kernel
theorem dNr_copyOf_126 : decode cNr_copyOf 126 = .ok (.putfield 67, 3) := by decide +kernel
theorem dNr_copyOf_129 : decode cNr_copyOf 129 = .ok (.aload_n 0, 1) := by decide +kernel
theorem dNr_copyOf_130 : decode cNr_copyOf 130 = .ok (.getfield 23, 3) := by decide +kernel
theorem dNr_copyOf_133 : decode cNr_copyOf 133 = .ok (.iload_n 1, 1) := by decide +kernel
theorem dNr_copyOf_134 : decode cNr_copyOf 134 = .ok (.iload 5, 2) := by decide +kernel
theorem dNr_copyOf_136 : decode cNr_copyOf 136 = .ok (.ineg, 1) := by decide +kernel
theorem dNr_copyOf_137 : decode cNr_copyOf 137 = .ok (.iastore, 1) := by decide +kernel
theorem dNr_copyOf_138 : decode cNr_copyOf 138 = .ok (.aload_n 0, 1) := by decide +kernel
theorem dNr_copyOf_139 : decode cNr_copyOf 139 = .ok (.iload 5, 2) := by decide +kernel
theorem dNr_copyOf_141 : decode cNr_copyOf 141 = .ok (.invokevirtual 185, 3) := by decide +kernel
theorem dNr_copyOf_144 : decode cNr_copyOf 144 = .ok (.iload 5, 2) := by decide +kernel
theorem dNr_copyOf_146 : decode cNr_copyOf 146 = .ok (.ireturn, 1) := by decide +kernel
theorem dNr_noteCopy_0 : decode cNr_noteCopy 0 = .ok (.aload_n 0, 1) := by decide +kernel
theorem dNr_noteCopy_1 : decode cNr_noteCopy 1 = .ok (.getfield 123, 3) := by decide +kernel
theorem dNr_noteCopy_4 : decode cNr_noteCopy 4 = .ok (.aload_n 0, 1) := by decide +kernel
theorem dNr_noteCopy_5 : decode cNr_noteCopy 5 = .ok (.getfield 20, 3) := by decide +kernel
theorem dNr_noteCopy_8 : decode cNr_noteCopy 8 = .ok (.arraylength, 1) := by decide +kernel
theorem dNr_noteCopy_9 : decode cNr_noteCopy 9 = .ok (.if_icmp .ge 23, 3) := by decide +kernel
theorem dNr_noteCopy_12 : decode cNr_noteCopy 12 = .ok (.aload_n 0, 1) := by decide +kernel
theorem dNr_noteCopy_13 : decode cNr_noteCopy 13 = .ok (.getfield 20, 3) := by decide +kernel
theorem dNr_noteCopy_16 : decode cNr_noteCopy 16 = .ok (.aload_n 0, 1) := by decide +kernel
theorem dNr_noteCopy_17 : decode cNr_noteCopy 17 = .ok (.getfield 123, 3) := by decide +kernel
theorem dNr_noteCopy_20 : decode cNr_noteCopy 20 = .ok (.iload_n 1, 1) := by decide +kernel
theorem dNr_noteCopy_21 : decode cNr_noteCopy 21 = .ok (.iastore, 1) := by decide +kernel
theorem dNr_noteCopy_22 : decode cNr_noteCopy 22 = .ok (.aload_n 0, 1) := by decide +kernel
theorem dNr_noteCopy_23 : decode cNr_noteCopy 23 = .ok (.dup, 1) := by decide +kernel
theorem dNr_noteCopy_24 : decode cNr_noteCopy 24 = .ok (.getfield 123, 3) := by decide +kernel
theorem dNr_noteCopy_27 : decode cNr_noteCopy 27 = .ok (.iconst 1, 1) := by decide +kernel
theorem dNr_noteCopy_28 : decode cNr_noteCopy 28 = .ok (.iadd, 1) := by decide +kernel
theorem dNr_noteCopy_29 : decode cNr_noteCopy 29 = .ok (.putfield 123, 3) := by decide +kernel
theorem dNr_noteCopy_32 : decode cNr_noteCopy 32 = .ok (.return_, 1) := by decide +kernel
theorem dNr_followOld_0 : decode cNr_followOld 0 = .ok (.aload_n 0, 1) := by decide +kernel
theorem dNr_followOld_1 : decode cNr_followOld 1 = .ok (.getfield 11, 3) := by decide +kernel
theorem dNr_followOld_4 : decode cNr_followOld 4 = .ok (.iconst 3, 1) := by decide +kernel
theorem dNr_followOld_5 : decode cNr_followOld 5 = .ok (.aaload, 1) := by decide +kernel
theorem dNr_followOld_6 : decode cNr_followOld 6 = .ok (.getfield 164, 3) := by decide +kernel
theorem dNr_followOld_9 : decode cNr_followOld 9 = .ok (.istore_n 2, 1) := by decide +kernel
theorem dNr_followOld_10 : decode cNr_followOld 10 = .ok (.iconst 0, 1) := by decide +kernel
theorem dNr_followOld_11 : decode cNr_followOld 11 = .ok (.istore_n 3, 1) := by decide +kernel
theorem dNr_followOld_12 : decode cNr_followOld 12 = .ok (.iload_n 3, 1) := by decide +kernel
theorem dNr_followOld_13 : decode cNr_followOld 13 = .ok (.iload_n 1, 1) := by decide +kernel
theorem dNr_followOld_14 : decode cNr_followOld 14 = .ok (.if_icmp .ge 22, 3) := by decide +kernel
theorem dNr_followOld_17 : decode cNr_followOld 17 = .ok (.aload_n 0, 1) := by decide +kernel
theorem dNr_followOld_18 : decode cNr_followOld 18 = .ok (.iload_n 2, 1) := by decide +kernel
theorem dNr_followOld_19 : decode cNr_followOld 19 = .ok (.invokevirtual 170, 3) := by decide +kernel
theorem dNr_followOld_22 : decode cNr_followOld 22 = .ok (.iload_n 2, 1) := by decide +kernel
theorem dNr_followOld_23 : decode cNr_followOld 23 = .ok (.aload_n 0, 1) := by decide +kernel
theorem dNr_followOld_24 : decode cNr_followOld 24 = .ok (.iload_n 2, 1) := by decide +kernel
theorem dNr_followOld_25 : decode cNr_followOld 25 = .ok (.invokevirtual 150, 3) := by decide +kernel
theorem dNr_followOld_28 : decode cNr_followOld 28 = .ok (.iadd, 1) := by decide +kernel
theorem dNr_followOld_29 : decode cNr_followOld 29 = .ok (.istore_n 2, 1) := by decide +kernel
theorem dNr_followOld_30 : decode cNr_followOld 30 = .ok (.iinc 3 1, 3) := by decide +kernel
theorem dNr_followOld_33 : decode cNr_followOld 33 = .ok (.goto (-21), 3) := by decide +kernel
theorem dNr_followOld_36 : decode cNr_followOld 36 = .ok (.return_, 1) := by decide +kernel
theorem dNr_followFields_0 : decode cNr_followFields 0 = .ok (.iload_n 1, 1) := by decide +kernel
theorem dNr_followFields_1 : decode cNr_followFields 1 = .ok (.iconst 3, 1) := by decide +kernel
theorem dNr_followFields_2 : decode cNr_followFields 2 = .ok (.iadd, 1) := by decide +kernel
theorem dNr_followFields_3 : decode cNr_followFields 3 = .ok (.aload_n 0, 1) := by decide +kernel
theorem dNr_followFields_4 : decode cNr_followFields 4 = .ok (.getfield 23, 3) := by decide +kernel
theorem dNr_followFields_7 : decode cNr_followFields 7 = .ok (.iload_n 1, 1) := by decide +kernel
theorem dNr_followFields_8 : decode cNr_followFields 8 = .ok (.iaload, 1) := by decide +kernel
theorem dNr_followFields_9 : decode cNr_followFields 9 = .ok (.iadd, 1) := by decide +kernel
theorem dNr_followFields_10 : decode cNr_followFields 10 = .ok (.istore_n 2, 1) := by decide +kernel
theorem dNr_followFields_11 : decode cNr_followFields 11 = .ok (.iload_n 1, 1) := by decide +kernel
theorem dNr_followFields_12 : decode cNr_followFields 12 = .ok (.iconst 3, 1) := by decide +kernel
theorem dNr_followFields_13 : decode cNr_followFields 13 = .ok (.iadd, 1) := by decide +kernel
theorem dNr_followFields_14 : decode cNr_followFields 14 = .ok (.istore_n 3, 1) := by decide +kernel
theorem dNr_followFields_15 : decode cNr_followFields 15 = .ok (.iload_n 3, 1) := by decide +kernel
theorem dNr_followFields_16 : decode cNr_followFields 16 = .ok (.iload_n 2, 1) := by decide +kernel
theorem dNr_followFields_17 : decode cNr_followFields 17 = .ok (.if_icmp .ge 25, 3) := by decide +kernel
theorem dNr_followFields_20 : decode cNr_followFields 20 = .ok (.aload_n 0, 1) := by decide +kernel
theorem dNr_followFields_21 : decode cNr_followFields 21 = .ok (.getfield 23, 3) := by decide +kernel
theorem dNr_followFields_24 : decode cNr_followFields 24 = .ok (.iload_n 3, 1) := by decide +kernel
theorem dNr_followFields_25 : decode cNr_followFields 25 = .ok (.aload_n 0, 1) := by decide +kernel
theorem dNr_followFields_26 : decode cNr_followFields 26 = .ok (.aload_n 0, 1) := by decide +kernel
theorem dNr_followFields_27 : decode cNr_followFields 27 = .ok (.getfield 23, 3) := by decide +kernel
theorem dNr_followFields_30 : decode cNr_followFields 30 = .ok (.iload_n 3, 1) := by decide +kernel
theorem dNr_followFields_31 : decode cNr_followFields 31 = .ok (.iaload, 1) := by decide +kernel
theorem dNr_followFields_32 : decode cNr_followFields 32 = .ok (.invokevirtual 167, 3) := by decide +kernel
theorem dNr_followFields_35 : decode cNr_followFields 35 = .ok (.iastore, 1) := by decide +kernel
theorem dNr_followFields_36 : decode cNr_followFields 36 = .ok (.iinc 3 1, 3) := by decide +kernel
theorem dNr_followFields_39 : decode cNr_followFields 39 = .ok (.goto (-24), 3) := by decide +kernel
theorem dNr_followFields_42 : decode cNr_followFields 42 = .ok (.return_, 1) := by decide +kernel
theorem dNr_followCopies_0 : decode cNr_followCopies 0 = .ok (.iconst 0, 1) := by decide +kernel
theorem dNr_followCopies_1 : decode cNr_followCopies 1 = .ok (.istore_n 1, 1) := by decide +kernel
theorem dNr_followCopies_2 : decode cNr_followCopies 2 = .ok (.iload_n 1, 1) := by decide +kernel
theorem dNr_followCopies_3 : decode cNr_followCopies 3 = .ok (.aload_n 0, 1) := by decide +kernel
theorem dNr_followCopies_4 : decode cNr_followCopies 4 = .ok (.getfield 123, 3) := by decide +kernel
theorem dNr_followCopies_7 : decode cNr_followCopies 7 = .ok (.if_icmp .ge 28, 3) := by decide +kernel
theorem dNr_followCopies_10 : decode cNr_followCopies 10 = .ok (.iload_n 1, 1) := by decide +kernel
theorem dNr_followCopies_11 : decode cNr_followCopies 11 = .ok (.aload_n 0, 1) := by decide +kernel
theorem dNr_followCopies_12 : decode cNr_followCopies 12 = .ok (.getfield 20, 3) := by decide +kernel
theorem dNr_followCopies_15 : decode cNr_followCopies 15 = .ok (.arraylength, 1) := by decide +kernel
theorem dNr_followCopies_16 : decode cNr_followCopies 16 = .ok (.if_icmp .ge 19, 3) := by decide +kernel
theorem dNr_followCopies_19 : decode cNr_followCopies 19 = .ok (.aload_n 0, 1) := by decide +kernel
theorem dNr_followCopies_20 : decode cNr_followCopies 20 = .ok (.aload_n 0, 1) := by decide +kernel
theorem dNr_followCopies_21 : decode cNr_followCopies 21 = .ok (.getfield 20, 3) := by decide +kernel
theorem dNr_followCopies_24 : decode cNr_followCopies 24 = .ok (.iload_n 1, 1) := by decide +kernel
theorem dNr_followCopies_25 : decode cNr_followCopies 25 = .ok (.iaload, 1) := by decide +kernel
theorem dNr_followCopies_26 : decode cNr_followCopies 26 = .ok (.invokevirtual 170, 3) := by decide +kernel
theorem dNr_followCopies_29 : decode cNr_followCopies 29 = .ok (.iinc 1 1, 3) := by decide +kernel
theorem dNr_followCopies_32 : decode cNr_followCopies 32 = .ok (.goto (-30), 3) := by decide +kernel
theorem dNr_followCopies_35 : decode cNr_followCopies 35 = .ok (.return_, 1) := by decide +kernel
theorem dNr_about_0 : decode cNr_about 0 = .ok (.aload_n 0, 1) := by decide +kernel
theorem dNr_about_1 : decode cNr_about 1 = .ok (.iload_n 1, 1) := by decide +kernel
theorem dNr_about_2 : decode cNr_about 2 = .ok (.invokevirtual 139, 3) := by decide +kernel
theorem dNr_about_5 : decode cNr_about 5 = .ok (.ifCond .ne 13, 3) := by decide +kernel
theorem dNr_about_8 : decode cNr_about 8 = .ok (.new 92, 3) := by decide +kernel
theorem dNr_about_11 : decode cNr_about 11 = .ok (.dup, 1) := by decide +kernel
theorem dNr_about_12 : decode cNr_about 12 = .ok (.ldc 72, 2) := by decide +kernel
theorem dNr_about_14 : decode cNr_about 14 = .ok (.invokespecial 96, 3) := by decide +kernel
theorem dNr_about_17 : decode cNr_about 17 = .ok (.athrow, 1) := by decide +kernel
theorem dNr_about_18 : decode cNr_about 18 = .ok (.iload_n 2, 1) := by decide +kernel
theorem dNr_about_19 : decode cNr_about 19 = .ok (.tableswitch 60 0 3 #[29, 38, 45, 54], 29) := by decide +kernel
theorem dNr_about_48 : decode cNr_about 48 = .ok (.aload_n 0, 1) := by decide +kernel
theorem dNr_about_49 : decode cNr_about 49 = .ok (.getfield 23, 3) := by decide +kernel
theorem dNr_about_52 : decode cNr_about 52 = .ok (.iload_n 1, 1) := by decide +kernel
theorem dNr_about_53 : decode cNr_about 53 = .ok (.iconst 2, 1) := by decide +kernel
theorem dNr_about_54 : decode cNr_about 54 = .ok (.iadd, 1) := by decide +kernel
theorem dNr_about_55 : decode cNr_about 55 = .ok (.iaload, 1) := by decide +kernel
theorem dNr_about_56 : decode cNr_about 56 = .ok (.ireturn, 1) := by decide +kernel
theorem dNr_about_57 : decode cNr_about 57 = .ok (.aload_n 0, 1) := by decide +kernel
theorem dNr_about_58 : decode cNr_about 58 = .ok (.getfield 23, 3) := by decide +kernel
theorem dNr_about_61 : decode cNr_about 61 = .ok (.iload_n 1, 1) := by decide +kernel
theorem dNr_about_62 : decode cNr_about 62 = .ok (.iaload, 1) := by decide +kernel
theorem dNr_about_63 : decode cNr_about 63 = .ok (.ireturn, 1) := by decide +kernel
theorem dNr_about_64 : decode cNr_about 64 = .ok (.aload_n 0, 1) := by decide +kernel
theorem dNr_about_65 : decode cNr_about 65 = .ok (.getfield 23, 3) := by decide +kernel
theorem dNr_about_68 : decode cNr_about 68 = .ok (.iload_n 1, 1) := by decide +kernel
theorem dNr_about_69 : decode cNr_about 69 = .ok (.iconst 1, 1) := by decide +kernel
theorem dNr_about_70 : decode cNr_about 70 = .ok (.iadd, 1) := by decide +kernel
theorem dNr_about_71 : decode cNr_about 71 = .ok (.iaload, 1) := by decide +kernel
theorem dNr_about_72 : decode cNr_about 72 = .ok (.ireturn, 1) := by decide +kernel
theorem dNr_about_73 : decode cNr_about 73 = .ok (.aload_n 0, 1) := by decide +kernel
theorem dNr_about_74 : decode cNr_about 74 = .ok (.iload_n 1, 1) := by decide +kernel
theorem dNr_about_75 : decode cNr_about 75 = .ok (.invokevirtual 142, 3) := by decide +kernel
theorem dNr_about_78 : decode cNr_about 78 = .ok (.ireturn, 1) := by decide +kernel
theorem dNr_about_79 : decode cNr_about 79 = .ok (.new 38, 3) := by decide +kernel
theorem dNr_about_82 : decode cNr_about 82 = .ok (.dup, 1) := by decide +kernel
theorem dNr_about_83 : decode cNr_about 83 = .ok (.ldc 145, 2) := by decide +kernel
theorem dNr_about_85 : decode cNr_about 85 = .ok (.invokespecial 42, 3) := by decide +kernel
theorem dNr_about_88 : decode cNr_about 88 = .ok (.athrow, 1) := by decide +kernel
theorem dNr_next_0 : decode cNr_next 0 = .ok (.iload_n 1, 1) := by decide +kernel
theorem dNr_next_1 : decode cNr_next 1 = .ok (.ifCond .ne 9, 3) := by decide +kernel
theorem dNr_next_4 : decode cNr_next 4 = .ok (.aload_n 0, 1) := by decide +kernel
theorem dNr_next_5 : decode cNr_next 5 = .ok (.iconst 0, 1) := by decide +kernel
theorem dNr_next_6 : decode cNr_next 6 = .ok (.invokevirtual 147, 3) := by decide +kernel
theorem dNr_next_9 : decode cNr_next 9 = .ok (.ireturn, 1) := by decide +kernel
theorem dNr_next_10 : decode cNr_next 10 = .ok (.aload_n 0, 1) := by decide +kernel
theorem dNr_next_11 : decode cNr_next 11 = .ok (.iload_n 1, 1) := by decide +kernel
theorem dNr_next_12 : decode cNr_next 12 = .ok (.invokevirtual 139, 3) := by decide +kernel
theorem dNr_next_15 : decode cNr_next 15 = .ok (.ifCond .ne 13, 3) := by decide +kernel
theorem dNr_next_18 : decode cNr_next 18 = .ok (.new 92, 3) := by decide +kernel
theorem dNr_next_21 : decode cNr_next 21 = .ok (.dup, 1) := by decide +kernel
theorem dNr_next_22 : decode cNr_next 22 = .ok (.ldc 72, 2) := by decide +kernel
theorem dNr_next_24 : decode cNr_next 24 = .ok (.invokespecial 96, 3) := by decide +kernel
theorem dNr_next_27 : decode cNr_next 27 = .ok (.athrow, 1) := by decide +kernel
theorem dNr_next_28 : decode cNr_next 28 = .ok (.aload_n 0, 1) := by decide +kernel
theorem dNr_next_29 : decode cNr_next 29 = .ok (.iload_n 1, 1) := by decide +kernel
theorem dNr_next_30 : decode cNr_next 30 = .ok (.invokevirtual 142, 3) := by decide +kernel
theorem dNr_next_33 : decode cNr_next 33 = .ok (.istore_n 2, 1) := by decide +kernel
theorem dNr_next_34 : decode cNr_next 34 = .ok (.iload_n 1, 1) := by decide +kernel
theorem dNr_next_35 : decode cNr_next 35 = .ok (.aload_n 0, 1) := by decide +kernel
theorem dNr_next_36 : decode cNr_next 36 = .ok (.iload_n 1, 1) := by decide +kernel
theorem dNr_next_37 : decode cNr_next 37 = .ok (.invokevirtual 150, 3) := by decide +kernel
theorem dNr_next_40 : decode cNr_next 40 = .ok (.iadd, 1) := by decide +kernel
theorem dNr_next_41 : decode cNr_next 41 = .ok (.istore_n 3, 1) := by decide +kernel
theorem dNr_next_42 : decode cNr_next 42 = .ok (.aload_n 0, 1) := by decide +kernel
theorem dNr_next_43 : decode cNr_next 43 = .ok (.getfield 11, 3) := by decide +kernel
theorem dNr_next_46 : decode cNr_next 46 = .ok (.iload_n 2, 1) := by decide +kernel
theorem dNr_next_47 : decode cNr_next 47 = .ok (.aaload, 1) := by decide +kernel
theorem dNr_next_48 : decode cNr_next 48 = .ok (.iload_n 3, 1) := by decide +kernel
theorem dNr_next_49 : decode cNr_next 49 = .ok (.invokevirtual 153, 3) := by decide +kernel
theorem dNr_next_52 : decode cNr_next 52 = .ok (.ifCond .eq 7, 3) := by decide +kernel
theorem dNr_next_55 : decode cNr_next 55 = .ok (.iload_n 3, 1) := by decide +kernel
theorem dNr_next_56 : decode cNr_next 56 = .ok (.goto 10, 3) := by decide +kernel
theorem dNr_next_59 : decode cNr_next 59 = .ok (.aload_n 0, 1) := by decide +kernel
theorem dNr_next_60 : decode cNr_next 60 = .ok (.iload_n 2, 1) := by decide +kernel
theorem dNr_next_61 : decode cNr_next 61 = .ok (.iconst 1, 1) := by decide +kernel
theorem dNr_next_62 : decode cNr_next 62 = .ok (.iadd, 1) := by decide +kernel
theorem dNr_next_63 : decode cNr_next 63 = .ok (.invokevirtual 147, 3) := by decide +kernel
theorem dNr_next_66 : decode cNr_next 66 = .ok (.ireturn, 1) := by decide +kernel
theorem dNr_firstFrom_0 : decode cNr_firstFrom 0 = .ok (.iload_n 1, 1) := by decide +kernel
theorem dNr_firstFrom_1 : decode cNr_firstFrom 1 = .ok (.istore_n 2, 1) := by decide +kernel
theorem dNr_firstFrom_2 : decode cNr_firstFrom 2 = .ok (.iload_n 2, 1) := by decide +kernel
theorem dNr_firstFrom_3 : decode cNr_firstFrom 3 = .ok (.iconst 4, 1) := by decide +kernel
theorem dNr_firstFrom_4 : decode cNr_firstFrom 4 = .ok (.if_icmp .ge 31, 3) := by decide +kernel
theorem dNr_firstFrom_7 : decode cNr_firstFrom 7 = .ok (.aload_n 0, 1) := by decide +kernel
theorem dNr_firstFrom_8 : decode cNr_firstFrom 8 = .ok (.getfield 11, 3) := by decide +kernel
theorem dNr_firstFrom_11 : decode cNr_firstFrom 11 = .ok (.iload_n 2, 1) := by decide +kernel
theorem dNr_firstFrom_12 : decode cNr_firstFrom 12 = .ok (.aaload, 1) := by decide +kernel
theorem dNr_firstFrom_13 : decode cNr_firstFrom 13 = .ok (.getfield 120, 3) := by decide +kernel
theorem dNr_firstFrom_16 : decode cNr_firstFrom 16 = .ok (.ifCond .le 13, 3) := by decide +kernel
theorem dNr_firstFrom_19 : decode cNr_firstFrom 19 = .ok (.aload_n 0, 1) := by decide +kernel
theorem dNr_firstFrom_20 : decode cNr_firstFrom 20 = .ok (.getfield 11, 3) := by decide +kernel
theorem dNr_firstFrom_23 : decode cNr_firstFrom 23 = .ok (.iload_n 2, 1) := by decide +kernel
theorem dNr_firstFrom_24 : decode cNr_firstFrom 24 = .ok (.aaload, 1) := by decide +kernel
theorem dNr_firstFrom_25 : decode cNr_firstFrom 25 = .ok (.getfield 164, 3) := by decide +kernel
theorem dNr_firstFrom_28 : decode cNr_firstFrom 28 = .ok (.ireturn, 1) := by decide +kernel
theorem dNr_firstFrom_29 : decode cNr_firstFrom 29 = .ok (.iinc 2 1, 3) := by decide +kernel
theorem dNr_firstFrom_32 : decode cNr_firstFrom 32 = .ok (.goto (-30), 3) := by decide +kernel
theorem dNr_firstFrom_35 : decode cNr_firstFrom 35 = .ok (.iconst 0, 1) := by decide +kernel
theorem dNr_firstFrom_36 : decode cNr_firstFrom 36 = .ok (.ireturn, 1) := by decide +kernel
theorem dNr_count_0 : decode cNr_count 0 = .ok (.iload_n 1, 1) := by decide +kernel
theorem dNr_count_1 : decode cNr_count 1 = .ok (.tableswitch 145 0 9 #[55, 65, 80, 90, 100, 115, 125, 130, 135, 140], 55) := by decide +kernel
theorem dNr_count_56 : decode cNr_count 56 = .ok (.aload_n 0, 1) := by decide +kernel
theorem dNr_count_57 : decode cNr_count 57 = .ok (.getfield 11, 3) := by decide +kernel
theorem dNr_count_60 : decode cNr_count 60 = .ok (.iconst 0, 1) := by decide +kernel
theorem dNr_count_61 : decode cNr_count 61 = .ok (.aaload, 1) := by decide +kernel
theorem dNr_count_62 : decode cNr_count 62 = .ok (.getfield 120, 3) := by decide +kernel
theorem dNr_count_65 : decode cNr_count 65 = .ok (.ireturn, 1) := by decide +kernel
theorem dNr_count_66 : decode cNr_count 66 = .ok (.aload_n 0, 1) := by decide +kernel
theorem dNr_count_67 : decode cNr_count 67 = .ok (.getfield 11, 3) := by decide +kernel
theorem dNr_count_70 : decode cNr_count 70 = .ok (.iconst 1, 1) := by decide +kernel
theorem dNr_count_71 : decode cNr_count 71 = .ok (.aload_n 0, 1) := by decide +kernel
theorem dNr_count_72 : decode cNr_count 72 = .ok (.getfield 58, 3) := by decide +kernel
theorem dNr_count_75 : decode cNr_count 75 = .ok (.iadd, 1) := by decide +kernel
theorem dNr_count_76 : decode cNr_count 76 = .ok (.aaload, 1) := by decide +kernel
theorem dNr_count_77 : decode cNr_count 77 = .ok (.getfield 120, 3) := by decide +kernel
theorem dNr_count_80 : decode cNr_count 80 = .ok (.ireturn, 1) := by decide +kernel
theorem dNr_count_81 : decode cNr_count 81 = .ok (.aload_n 0, 1) := by decide +kernel
theorem dNr_count_82 : decode cNr_count 82 = .ok (.getfield 11, 3) := by decide +kernel
theorem dNr_count_85 : decode cNr_count 85 = .ok (.iconst 3, 1) := by decide +kernel
theorem dNr_count_86 : decode cNr_count 86 = .ok (.aaload, 1) := by decide +kernel
theorem dNr_count_87 : decode cNr_count 87 = .ok (.getfield 120, 3) := by decide +kernel
theorem dNr_count_90 : decode cNr_count 90 = .ok (.ireturn, 1) := by decide +kernel
theorem dNr_count_91 : decode cNr_count 91 = .ok (.aload_n 0, 1) := by decide +kernel
theorem dNr_count_92 : decode cNr_count 92 = .ok (.getfield 11, 3) := by decide +kernel
theorem dNr_count_95 : decode cNr_count 95 = .ok (.iconst 0, 1) := by decide +kernel
theorem dNr_count_96 : decode cNr_count 96 = .ok (.aaload, 1) := by decide +kernel
theorem dNr_count_97 : decode cNr_count 97 = .ok (.getfield 112, 3) := by decide +kernel
theorem dNr_count_100 : decode cNr_count 100 = .ok (.ireturn, 1) := by decide +kernel
theorem dNr_count_101 : decode cNr_count 101 = .ok (.aload_n 0, 1) := by decide +kernel
theorem dNr_count_102 : decode cNr_count 102 = .ok (.getfield 11, 3) := by decide +kernel
theorem dNr_count_105 : decode cNr_count 105 = .ok (.iconst 1, 1) := by decide +kernel
theorem dNr_count_106 : decode cNr_count 106 = .ok (.aload_n 0, 1) := by decide +kernel
theorem dNr_count_107 : decode cNr_count 107 = .ok (.getfield 58, 3) := by decide +kernel
theorem dNr_count_110 : decode cNr_count 110 = .ok (.iadd, 1) := by decide +kernel
theorem dNr_count_111 : decode cNr_count 111 = .ok (.aaload, 1) := by decide +kernel
theorem dNr_count_112 : decode cNr_count 112 = .ok (.getfield 112, 3) := by decide +kernel
theorem dNr_count_115 : decode cNr_count 115 = .ok (.ireturn, 1) := by decide +kernel
theorem dNr_count_116 : decode cNr_count 116 = .ok (.aload_n 0, 1) := by decide +kernel
theorem dNr_count_117 : decode cNr_count 117 = .ok (.getfield 11, 3) := by decide +kernel
theorem dNr_count_120 : decode cNr_count 120 = .ok (.iconst 3, 1) := by decide +kernel
theorem dNr_count_121 : decode cNr_count 121 = .ok (.aaload, 1) := by decide +kernel
theorem dNr_count_122 : decode cNr_count 122 = .ok (.getfield 112, 3) := by decide +kernel
theorem dNr_count_125 : decode cNr_count 125 = .ok (.ireturn, 1) := by decide +kernel
theorem dNr_count_126 : decode cNr_count 126 = .ok (.aload_n 0, 1) := by decide +kernel
theorem dNr_count_127 : decode cNr_count 127 = .ok (.getfield 61, 3) := by decide +kernel
theorem dNr_count_130 : decode cNr_count 130 = .ok (.ireturn, 1) := by decide +kernel
theorem dNr_count_131 : decode cNr_count 131 = .ok (.aload_n 0, 1) := by decide +kernel
theorem dNr_count_132 : decode cNr_count 132 = .ok (.getfield 64, 3) := by decide +kernel
theorem dNr_count_135 : decode cNr_count 135 = .ok (.ireturn, 1) := by decide +kernel
theorem dNr_count_136 : decode cNr_count 136 = .ok (.aload_n 0, 1) := by decide +kernel
theorem dNr_count_137 : decode cNr_count 137 = .ok (.getfield 67, 3) := by decide +kernel
theorem dNr_count_140 : decode cNr_count 140 = .ok (.ireturn, 1) := by decide +kernel
theorem dNr_count_141 : decode cNr_count 141 = .ok (.aload_n 0, 1) := by decide +kernel
theorem dNr_count_142 : decode cNr_count 142 = .ok (.getfield 58, 3) := by decide +kernel
theorem dNr_count_145 : decode cNr_count 145 = .ok (.ireturn, 1) := by decide +kernel
theorem dNr_count_146 : decode cNr_count 146 = .ok (.new 38, 3) := by decide +kernel
theorem dNr_count_149 : decode cNr_count 149 = .ok (.dup, 1) := by decide +kernel
theorem dNr_count_150 : decode cNr_count 150 = .ok (.ldc 156, 2) := by decide +kernel
theorem dNr_count_152 : decode cNr_count 152 = .ok (.invokespecial 42, 3) := by decide +kernel
theorem dNr_count_155 : decode cNr_count 155 = .ok (.athrow, 1) := by decide +kernel
end
section
theorem dMd_init_0 : decode cMd_init 0 = .ok (.aload_n 0, 1) := by decide +kernel
theorem dMd_init_1 : decode cMd_init 1 = .ok (.invokespecial 1, 3) := by decide +kernel
theorem dMd_init_4 : decode cMd_init 4 = .ok (.aload_n 0, 1) := by decide +kernel
theorem dMd_init_5 : decode cMd_init 5 = .ok (.iconst 4, 1) := by decide +kernel
theorem dMd_init_6 : decode cMd_init 6 = .ok (.newarray .int, 2) := by decide +kernel
theorem dMd_init_8 : decode cMd_init 8 = .ok (.putfield 7, 3) := by decide +kernel
theorem dMd_init_11 : decode cMd_init 11 = .ok (.aload_n 0, 1) := by decide +kernel
theorem dMd_init_12 : decode cMd_init 12 = .ok (.iconst 4, 1) := by decide +kernel
theorem dMd_init_13 : decode cMd_init 13 = .ok (.newarray .int, 2) := by decide +kernel
theorem dMd_init_15 : decode cMd_init 15 = .ok (.putfield 13, 3) := by decide +kernel
theorem dMd_init_18 : decode cMd_init 18 = .ok (.aload_n 0, 1) := by decide +kernel
theorem dMd_init_19 : decode cMd_init 19 = .ok (.iconst 4, 1) := by decide +kernel
theorem dMd_init_20 : decode cMd_init 20 = .ok (.newarray .int, 2) := by decide +kernel
theorem dMd_init_22 : decode cMd_init 22 = .ok (.putfield 16, 3) := by decide +kernel
theorem dMd_init_25 : decode cMd_init 25 = .ok (.aload_n 0, 1) := by decide +kernel
theorem dMd_init_26 : decode cMd_init 26 = .ok (.iconst 1, 1) := by decide +kernel
theorem dMd_init_27 : decode cMd_init 27 = .ok (.putfield 19, 3) := by decide +kernel
theorem dMd_init_30 : decode cMd_init 30 = .ok (.aload_n 0, 1) := by decide +kernel
theorem dMd_init_31 : decode cMd_init 31 = .ok (.iconst 3, 1) := by decide +kernel
theorem dMd_init_32 : decode cMd_init 32 = .ok (.putfield 23, 3) := by decide +kernel
theorem dMd_init_35 : decode cMd_init 35 = .ok (.aload_n 0, 1) := by decide +kernel
theorem dMd_init_36 : decode cMd_init 36 = .ok (.sipush 3600, 3) := by decide +kernel
theorem dMd_init_39 : decode cMd_init 39 = .ok (.newarray .boolean, 2) := by decide +kernel
theorem dMd_init_41 : decode cMd_init 41 = .ok (.putfield 26, 3) := by decide +kernel
theorem dMd_init_44 : decode cMd_init 44 = .ok (.aload_n 0, 1) := by decide +kernel
theorem dMd_init_45 : decode cMd_init 45 = .ok (.sipush 3600, 3) := by decide +kernel
theorem dMd_init_48 : decode cMd_init 48 = .ok (.newarray .int, 2) := by decide +kernel
theorem dMd_init_50 : decode cMd_init 50 = .ok (.putfield 30, 3) := by decide +kernel
theorem dMd_init_53 : decode cMd_init 53 = .ok (.aload_n 0, 1) := by decide +kernel
theorem dMd_init_54 : decode cMd_init 54 = .ok (.sipush 3600, 3) := by decide +kernel
theorem dMd_init_57 : decode cMd_init 57 = .ok (.newarray .int, 2) := by decide +kernel
theorem dMd_init_59 : decode cMd_init 59 = .ok (.putfield 33, 3) := by decide +kernel
theorem dMd_init_62 : decode cMd_init 62 = .ok (.aload_n 0, 1) := by decide +kernel
theorem dMd_init_63 : decode cMd_init 63 = .ok (.sipush 3600, 3) := by decide +kernel
theorem dMd_init_66 : decode cMd_init 66 = .ok (.newarray .int, 2) := by decide +kernel
theorem dMd_init_68 : decode cMd_init 68 = .ok (.putfield 36, 3) := by decide +kernel
theorem dMd_init_71 : decode cMd_init 71 = .ok (.aload_n 0, 1) := by decide +kernel
theorem dMd_init_72 : decode cMd_init 72 = .ok (.sipush 3600, 3) := by decide +kernel
theorem dMd_init_75 : decode cMd_init 75 = .ok (.newarray .int, 2) := by decide +kernel
theorem dMd_init_77 : decode cMd_init 77 = .ok (.putfield 39, 3) := by decide +kernel
theorem dMd_init_80 : decode cMd_init 80 = .ok (.aload_n 0, 1) := by decide +kernel
theorem dMd_init_81 : decode cMd_init 81 = .ok (.sipush 3600, 3) := by decide +kernel
theorem dMd_init_84 : decode cMd_init 84 = .ok (.newarray .int, 2) := by decide +kernel
theorem dMd_init_86 : decode cMd_init 86 = .ok (.putfield 42, 3) := by decide +kernel
theorem dMd_init_89 : decode cMd_init 89 = .ok (.aload_n 0, 1) := by decide +kernel
theorem dMd_init_90 : decode cMd_init 90 = .ok (.sipush 3600, 3) := by decide +kernel
theorem dMd_init_93 : decode cMd_init 93 = .ok (.newarray .int, 2) := by decide +kernel
theorem dMd_init_95 : decode cMd_init 95 = .ok (.putfield 45, 3) := by decide +kernel
theorem dMd_init_98 : decode cMd_init 98 = .ok (.aload_n 0, 1) := by decide +kernel
theorem dMd_init_99 : decode cMd_init 99 = .ok (.sipush 24000, 3) := by decide +kernel
theorem dMd_init_102 : decode cMd_init 102 = .ok (.newarray .int, 2) := by decide +kernel
theorem dMd_init_104 : decode cMd_init 104 = .ok (.putfield 48, 3) := by decide +kernel
theorem dMd_init_107 : decode cMd_init 107 = .ok (.aload_n 0, 1) := by decide +kernel
theorem dMd_init_108 : decode cMd_init 108 = .ok (.sipush 24000, 3) := by decide +kernel
theorem dMd_init_111 : decode cMd_init 111 = .ok (.newarray .int, 2) := by decide +kernel
theorem dMd_init_113 : decode cMd_init 113 = .ok (.putfield 51, 3) := by decide +kernel
theorem dMd_init_116 : decode cMd_init 116 = .ok (.aload_n 0, 1) := by decide +kernel
theorem dMd_init_117 : decode cMd_init 117 = .ok (.sipush 3600, 3) := by decide +kernel
theorem dMd_init_120 : decode cMd_init 120 = .ok (.newarray .int, 2) := by decide +kernel
theorem dMd_init_122 : decode cMd_init 122 = .ok (.putfield 54, 3) := by decide +kernel
theorem dMd_init_125 : decode cMd_init 125 = .ok (.aload_n 0, 1) := by decide +kernel
theorem dMd_init_126 : decode cMd_init 126 = .ok (.sipush 3600, 3) := by decide +kernel
theorem dMd_init_129 : decode cMd_init 129 = .ok (.newarray .int, 2) := by decide +kernel
theorem dMd_init_131 : decode cMd_init 131 = .ok (.putfield 57, 3) := by decide +kernel
theorem dMd_init_134 : decode cMd_init 134 = .ok (.aload_n 0, 1) := by decide +kernel
theorem dMd_init_135 : decode cMd_init 135 = .ok (.sipush 3600, 3) := by decide +kernel
theorem dMd_init_138 : decode cMd_init 138 = .ok (.newarray .boolean, 2) := by decide +kernel
theorem dMd_init_140 : decode cMd_init 140 = .ok (.putfield 60, 3) := by decide +kernel
theorem dMd_init_143 : decode cMd_init 143 = .ok (.aload_n 0, 1) := by decide +kernel
theorem dMd_init_144 : decode cMd_init 144 = .ok (.bipush 16, 2) := by decide +kernel
theorem dMd_init_146 : decode cMd_init 146 = .ok (.newarray .int, 2) := by decide +kernel
theorem dMd_init_148 : decode cMd_init 148 = .ok (.putfield 63, 3) := by decide +kernel
theorem dMd_init_151 : decode cMd_init 151 = .ok (.aload_n 0, 1) := by decide +kernel
theorem dMd_init_152 : decode cMd_init 152 = .ok (.sipush 256, 3) := by decide +kernel
theorem dMd_init_155 : decode cMd_init 155 = .ok (.bipush 64, 2) := by decide +kernel
theorem dMd_init_157 : decode cMd_init 157 = .ok (.sipush 2048, 3) := by decide +kernel
theorem dMd_init_160 : decode cMd_init 160 = .ok (.invokevirtual 66, 3) := by decide +kernel
theorem dMd_init_163 : decode cMd_init 163 = .ok (.return_, 1) := by decide +kernel
theorem dMd_lay_0 : decode cMd_lay 0 = .ok (.aload_n 0, 1) := by decide +kernel
theorem dMd_lay_1 : decode cMd_lay 1 = .ok (.getfield 13, 3) := by decide +kernel
theorem dMd_lay_4 : decode cMd_lay 4 = .ok (.iconst 0, 1) := by decide +kernel
theorem dMd_lay_5 : decode cMd_lay 5 = .ok (.iload_n 1, 1) := by decide +kernel
theorem dMd_lay_6 : decode cMd_lay 6 = .ok (.iastore, 1) := by decide +kernel
theorem dMd_lay_7 : decode cMd_lay 7 = .ok (.aload_n 0, 1) := by decide +kernel
theorem dMd_lay_8 : decode cMd_lay 8 = .ok (.getfield 13, 3) := by decide +kernel
theorem dMd_lay_11 : decode cMd_lay 11 = .ok (.iconst 1, 1) := by decide +kernel
theorem dMd_lay_12 : decode cMd_lay 12 = .ok (.iload_n 2, 1) := by decide +kernel
theorem dMd_lay_13 : decode cMd_lay 13 = .ok (.iastore, 1) := by decide +kernel
theorem dMd_lay_14 : decode cMd_lay 14 = .ok (.aload_n 0, 1) := by decide +kernel
theorem dMd_lay_15 : decode cMd_lay 15 = .ok (.getfield 13, 3) := by decide +kernel
theorem dMd_lay_18 : decode cMd_lay 18 = .ok (.iconst 2, 1) := by decide +kernel
theorem dMd_lay_19 : decode cMd_lay 19 = .ok (.iload_n 2, 1) := by decide +kernel
theorem dMd_lay_20 : decode cMd_lay 20 = .ok (.iastore, 1) := by decide +kernel
theorem dMd_lay_21 : decode cMd_lay 21 = .ok (.aload_n 0, 1) := by decide +kernel
theorem dMd_lay_22 : decode cMd_lay 22 = .ok (.getfield 13, 3) := by decide +kernel
theorem dMd_lay_25 : decode cMd_lay 25 = .ok (.iconst 3, 1) := by decide +kernel
theorem dMd_lay_26 : decode cMd_lay 26 = .ok (.iload_n 3, 1) := by decide +kernel
theorem dMd_lay_27 : decode cMd_lay 27 = .ok (.iastore, 1) := by decide +kernel
theorem dMd_lay_28 : decode cMd_lay 28 = .ok (.aload_n 0, 1) := by decide +kernel
theorem dMd_lay_29 : decode cMd_lay 29 = .ok (.getfield 7, 3) := by decide +kernel
theorem dMd_lay_32 : decode cMd_lay 32 = .ok (.iconst 0, 1) := by decide +kernel
theorem dMd_lay_33 : decode cMd_lay 33 = .ok (.iconst 1, 1) := by decide +kernel
theorem dMd_lay_34 : decode cMd_lay 34 = .ok (.iastore, 1) := by decide +kernel
theorem dMd_lay_35 : decode cMd_lay 35 = .ok (.iconst 1, 1) := by decide +kernel
theorem dMd_lay_36 : decode cMd_lay 36 = .ok (.istore 4, 2) := by decide +kernel
theorem dMd_lay_38 : decode cMd_lay 38 = .ok (.iload 4, 2) := by decide +kernel
theorem dMd_lay_40 : decode cMd_lay 40 = .ok (.iconst 4, 1) := by decide +kernel
theorem dMd_lay_41 : decode cMd_lay 41 = .ok (.if_icmp .ge 35, 3) := by decide +kernel
theorem dMd_lay_44 : decode cMd_lay 44 = .ok (.aload_n 0, 1) := by decide +kernel
theorem dMd_lay_45 : decode cMd_lay 45 = .ok (.getfield 7, 3) := by decide +kernel
theorem dMd_lay_48 : decode cMd_lay 48 = .ok (.iload 4, 2) := by decide +kernel
theorem dMd_lay_50 : decode cMd_lay 50 = .ok (.aload_n 0, 1) := by decide +kernel
theorem dMd_lay_51 : decode cMd_lay 51 = .ok (.getfield 7, 3) := by decide +kernel
theorem dMd_lay_54 : decode cMd_lay 54 = .ok (.iload 4, 2) := by decide +kernel
theorem dMd_lay_56 : decode cMd_lay 56 = .ok (.iconst 1, 1) := by decide +kernel
theorem dMd_lay_57 : decode cMd_lay 57 = .ok (.isub, 1) := by decide +kernel
theorem dMd_lay_58 : decode cMd_lay 58 = .ok (.iaload, 1) := by decide +kernel
theorem dMd_lay_59 : decode cMd_lay 59 = .ok (.aload_n 0, 1) := by decide +kernel
theorem dMd_lay_60 : decode cMd_lay 60 = .ok (.getfield 13, 3) := by decide +kernel
theorem dMd_lay_63 : decode cMd_lay 63 = .ok (.iload 4, 2) := by decide +kernel
theorem dMd_lay_65 : decode cMd_lay 65 = .ok (.iconst 1, 1) := by decide +kernel
theorem dMd_lay_66 : decode cMd_lay 66 = .ok (.isub, 1) := by decide +kernel
theorem dMd_lay_67 : decode cMd_lay 67 = .ok (.iaload, 1) := by decide +kernel
theorem dMd_lay_68 : decode cMd_lay 68 = .ok (.iadd, 1) := by decide +kernel
theorem dMd_lay_69 : decode cMd_lay 69 = .ok (.iastore, 1) := by decide +kernel
theorem dMd_lay_70 : decode cMd_lay 70 = .ok (.iinc 4 1, 3) := by decide +kernel
theorem dMd_lay_73 : decode cMd_lay 73 = .ok (.goto (-35), 3) := by decide +kernel
theorem dMd_lay_76 : decode cMd_lay 76 = .ok (.iconst 0, 1) := by decide +kernel
theorem dMd_lay_77 : decode cMd_lay 77 = .ok (.istore 4, 2) := by decide +kernel
theorem dMd_lay_79 : decode cMd_lay 79 = .ok (.iload 4, 2) := by decide +kernel
theorem dMd_lay_81 : decode cMd_lay 81 = .ok (.iconst 4, 1) := by decide +kernel
theorem dMd_lay_82 : decode cMd_lay 82 = .ok (.if_icmp .ge 23, 3) := by decide +kernel
theorem dMd_lay_85 : decode cMd_lay 85 = .ok (.aload_n 0, 1) := by decide +kernel
theorem dMd_lay_86 : decode cMd_lay 86 = .ok (.getfield 16, 3) := by decide +kernel
theorem dMd_lay_89 : decode cMd_lay 89 = .ok (.iload 4, 2) := by decide +kernel
theorem dMd_lay_91 : decode cMd_lay 91 = .ok (.aload_n 0, 1) := by decide +kernel
theorem dMd_lay_92 : decode cMd_lay 92 = .ok (.getfield 7, 3) := by decide +kernel
theorem dMd_lay_95 : decode cMd_lay 95 = .ok (.iload 4, 2) := by decide +kernel
theorem dMd_lay_97 : decode cMd_lay 97 = .ok (.iaload, 1) := by decide +kernel
theorem dMd_lay_98 : decode cMd_lay 98 = .ok (.iastore, 1) := by decide +kernel
theorem dMd_lay_99 : decode cMd_lay 99 = .ok (.iinc 4 1, 3) := by decide +kernel
theorem dMd_lay_102 : decode cMd_lay 102 = .ok (.goto (-23), 3) := by decide +kernel
theorem dMd_lay_105 : decode cMd_lay 105 = .ok (.iconst 0, 1) := by decide +kernel
theorem dMd_lay_106 : decode cMd_lay 106 = .ok (.istore 4, 2) := by decide +kernel
theorem dMd_lay_108 : decode cMd_lay 108 = .ok (.iload 4, 2) := by decide +kernel
theorem dMd_lay_110 : decode cMd_lay 110 = .ok (.sipush 3600, 3) := by decide +kernel
theorem dMd_lay_113 : decode cMd_lay 113 = .ok (.if_icmp .ge 17, 3) := by decide +kernel
theorem dMd_lay_116 : decode cMd_lay 116 = .ok (.aload_n 0, 1) := by decide +kernel
theorem dMd_lay_117 : decode cMd_lay 117 = .ok (.getfield 26, 3) := by decide +kernel
theorem dMd_lay_120 : decode cMd_lay 120 = .ok (.iload 4, 2) := by decide +kernel
theorem dMd_lay_122 : decode cMd_lay 122 = .ok (.iconst 0, 1) := by decide +kernel
theorem dMd_lay_123 : decode cMd_lay 123 = .ok (.bastore, 1) := by decide +kernel
theorem dMd_lay_124 : decode cMd_lay 124 = .ok (.iinc 4 1, 3) := by decide +kernel
theorem dMd_lay_127 : decode cMd_lay 127 = .ok (.goto (-19), 3) := by decide +kernel
theorem dMd_lay_130 : decode cMd_lay 130 = .ok (.iconst 0, 1) := by decide +kernel
theorem dMd_lay_131 : decode cMd_lay 131 = .ok (.istore 4, 2) := by decide +kernel
theorem dMd_lay_133 : decode cMd_lay 133 = .ok (.iload 4, 2) := by decide +kernel
theorem dMd_lay_135 : decode cMd_lay 135 = .ok (.bipush 16, 2) := by decide +kernel
theorem dMd_lay_137 : decode cMd_lay 137 = .ok (.if_icmp .ge 17, 3) := by decide +kernel
theorem dMd_lay_140 : decode cMd_lay 140 = .ok (.aload_n 0, 1) := by decide +kernel
theorem dMd_lay_141 : decode cMd_lay 141 = .ok (.getfield 63, 3) := by decide +kernel
theorem dMd_lay_144 : decode cMd_lay 144 = .ok (.iload 4, 2) := by decide +kernel
theorem dMd_lay_146 : decode cMd_lay 146 = .ok (.iconst 0, 1) := by decide +kernel
theorem dMd_lay_147 : decode cMd_lay 147 = .ok (.iastore, 1) := by decide +kernel
theorem dMd_lay_148 : decode cMd_lay 148 = .ok (.iinc 4 1, 3) := by decide +kernel
theorem dMd_lay_151 : decode cMd_lay 151 = .ok (.goto (-18), 3) := by decide +kernel
theorem dMd_lay_154 : decode cMd_lay 154 = .ok (.aload_n 0, 1) := by decide +kernel
theorem dMd_lay_155 : decode cMd_lay 155 = .ok (.iconst 1, 1) := by decide +kernel
theorem dMd_lay_156 : decode cMd_lay 156 = .ok (.putfield 19, 3) := by decide +kernel
theorem dMd_lay_159 : decode cMd_lay 159 = .ok (.aload_n 0, 1) := by decide +kernel
theorem dMd_lay_160 : decode cMd_lay 160 = .ok (.iconst 0, 1) := by decide +kernel
theorem dMd_lay_161 : decode cMd_lay 161 = .ok (.putfield 73, 3) := by decide +kernel
theorem dMd_lay_164 : decode cMd_lay 164 = .ok (.aload_n 0, 1) := by decide +kernel
theorem dMd_lay_165 : decode cMd_lay 165 = .ok (.iconst 0, 1) := by decide +kernel
theorem dMd_lay_166 : decode cMd_lay 166 = .ok (.putfield 76, 3) := by decide +kernel
theorem dMd_lay_169 : decode cMd_lay 169 = .ok (.aload_n 0, 1) := by decide +kernel
theorem dMd_lay_170 : decode cMd_lay 170 = .ok (.iconst 0, 1) := by decide +kernel
theorem dMd_lay_171 : decode cMd_lay 171 = .ok (.putfield 79, 3) := by decide +kernel
theorem dMd_lay_174 : decode cMd_lay 174 = .ok (.aload_n 0, 1) := by decide +kernel
theorem dMd_lay_175 : decode cMd_lay 175 = .ok (.iconst 0, 1) := by decide +kernel
theorem dMd_lay_176 : decode cMd_lay 176 = .ok (.putfield 82, 3) := by decide +kernel
theorem dMd_lay_179 : decode cMd_lay 179 = .ok (.aload_n 0, 1) := by decide +kernel
theorem dMd_lay_180 : decode cMd_lay 180 = .ok (.iconst 0, 1) := by decide +kernel
theorem dMd_lay_181 : decode cMd_lay 181 = .ok (.putfield 85, 3) := by decide +kernel
theorem dMd_lay_184 : decode cMd_lay 184 = .ok (.return_, 1) := by decide +kernel
theorem dMd_thrown_0 : decode cMd_thrown 0 = .ok (.aload_n 0, 1) := by decide +kernel
theorem dMd_thrown_1 : decode cMd_thrown 1 = .ok (.getfield 70, 3) := by decide +kernel
theorem dMd_thrown_4 : decode cMd_thrown 4 = .ok (.ireturn, 1) := by decide +kernel
theorem dMd_space_0 : decode cMd_space 0 = .ok (.aload_n 0, 1) := by decide +kernel
theorem dMd_space_1 : decode cMd_space 1 = .ok (.iload_n 1, 1) := by decide +kernel
theorem dMd_space_2 : decode cMd_space 2 = .ok (.bipush 16, 2) := by decide +kernel
theorem dMd_space_4 : decode cMd_space 4 = .ok (.if_icmp .lt 38, 3) := by decide +kernel
theorem dMd_space_7 : decode cMd_space 7 = .ok (.iload_n 1, 1) := by decide +kernel
theorem dMd_space_8 : decode cMd_space 8 = .ok (.sipush 1024, 3) := by decide +kernel
theorem dMd_space_11 : decode cMd_space 11 = .ok (.if_icmp .gt 31, 3) := by decide +kernel
theorem dMd_space_14 : decode cMd_space 14 = .ok (.iload_n 2, 1) := by decide +kernel
theorem dMd_space_15 : decode cMd_space 15 = .ok (.ifCond .lt 27, 3) := by decide +kernel
theorem dMd_space_18 : decode cMd_space 18 = .ok (.iload_n 2, 1) := by decide +kernel
theorem dMd_space_19 : decode cMd_space 19 = .ok (.sipush 512, 3) := by decide +kernel
theorem dMd_space_22 : decode cMd_space 22 = .ok (.if_icmp .gt 20, 3) := by decide +kernel
theorem dMd_space_25 : decode cMd_space 25 = .ok (.iload_n 3, 1) := by decide +kernel
theorem dMd_space_26 : decode cMd_space 26 = .ok (.bipush 64, 2) := by decide +kernel
theorem dMd_space_28 : decode cMd_space 28 = .ok (.if_icmp .lt 14, 3) := by decide +kernel
theorem dMd_space_31 : decode cMd_space 31 = .ok (.iload_n 3, 1) := by decide +kernel
theorem dMd_space_32 : decode cMd_space 32 = .ok (.sipush 8192, 3) := by decide +kernel
theorem dMd_space_35 : decode cMd_space 35 = .ok (.if_icmp .gt 7, 3) := by decide +kernel
theorem dMd_space_38 : decode cMd_space 38 = .ok (.iconst 1, 1) := by decide +kernel
theorem dMd_space_39 : decode cMd_space 39 = .ok (.goto 4, 3) := by decide +kernel
theorem dMd_space_42 : decode cMd_space 42 = .ok (.iconst 0, 1) := by decide +kernel
theorem dMd_space_43 : decode cMd_space 43 = .ok (.iconst 1, 1) := by decide +kernel
theorem dMd_space_44 : decode cMd_space 44 = .ok (.invokevirtual 88, 3) := by decide +kernel
theorem dMd_space_47 : decode cMd_space 47 = .ok (.ifCond .ne 5, 3) := by decide +kernel
theorem dMd_space_50 : decode cMd_space 50 = .ok (.iconst 0, 1) := by decide +kernel
theorem dMd_space_51 : decode cMd_space 51 = .ok (.ireturn, 1) := by decide +kernel
theorem dMd_space_52 : decode cMd_space 52 = .ok (.aload_n 0, 1) := by decide +kernel
theorem dMd_space_53 : decode cMd_space 53 = .ok (.getfield 13, 3) := by decide +kernel
theorem dMd_space_56 : decode cMd_space 56 = .ok (.iconst 0, 1) := by decide +kernel
theorem dMd_space_57 : decode cMd_space 57 = .ok (.iaload, 1) := by decide +kernel
theorem dMd_space_58 : decode cMd_space 58 = .ok (.aload_n 0, 1) := by decide +kernel
theorem dMd_space_59 : decode cMd_space 59 = .ok (.getfield 13, 3) := by decide +kernel
theorem dMd_space_62 : decode cMd_space 62 = .ok (.iconst 1, 1) := by decide +kernel
theorem dMd_space_63 : decode cMd_space 63 = .ok (.iaload, 1) := by decide +kernel
theorem dMd_space_64 : decode cMd_space 64 = .ok (.iadd, 1) := by decide +kernel
theorem dMd_space_65 : decode cMd_space 65 = .ok (.aload_n 0, 1) := by decide +kernel
theorem dMd_space_66 : decode cMd_space 66 = .ok (.getfield 13, 3) := by decide +kernel
theorem dMd_space_69 : decode cMd_space 69 = .ok (.iconst 2, 1) := by decide +kernel
theorem dMd_space_70 : decode cMd_space 70 = .ok (.iaload, 1) := by decide +kernel
theorem dMd_space_71 : decode cMd_space 71 = .ok (.iadd, 1) := by decide +kernel
theorem dMd_space_72 : decode cMd_space 72 = .ok (.aload_n 0, 1) := by decide +kernel
theorem dMd_space_73 : decode cMd_space 73 = .ok (.getfield 13, 3) := by decide +kernel
theorem dMd_space_76 : decode cMd_space 76 = .ok (.iconst 3, 1) := by decide +kernel
theorem dMd_space_77 : decode cMd_space 77 = .ok (.iaload, 1) := by decide +kernel
theorem dMd_space_78 : decode cMd_space 78 = .ok (.iadd, 1) := by decide +kernel
theorem dMd_space_79 : decode cMd_space 79 = .ok (.istore 4, 2) := by decide +kernel
theorem dMd_space_81 : decode cMd_space 81 = .ok (.aload_n 0, 1) := by decide +kernel
theorem dMd_space_82 : decode cMd_space 82 = .ok (.iload_n 1, 1) := by decide +kernel
theorem dMd_space_83 : decode cMd_space 83 = .ok (.iload_n 2, 1) := by decide +kernel
theorem dMd_space_84 : decode cMd_space 84 = .ok (.iload_n 3, 1) := by decide +kernel
theorem dMd_space_85 : decode cMd_space 85 = .ok (.invokevirtual 66, 3) := by decide +kernel
theorem dMd_space_88 : decode cMd_space 88 = .ok (.iload 4, 2) := by decide +kernel
theorem dMd_space_90 : decode cMd_space 90 = .ok (.ireturn, 1) := by decide +kernel
theorem dMd_goes_0 : decode cMd_goes 0 = .ok (.aload_n 0, 1) := by decide +kernel
theorem dMd_goes_1 : decode cMd_goes 1 = .ok (.iload_n 1, 1) := by decide +kernel
theorem dMd_goes_2 : decode cMd_goes 2 = .ok (.ifCond .ne 7, 3) := by decide +kernel
theorem dMd_goes_5 : decode cMd_goes 5 = .ok (.iconst 1, 1) := by decide +kernel
theorem dMd_goes_6 : decode cMd_goes 6 = .ok (.goto 12, 3) := by decide +kernel
theorem dMd_goes_9 : decode cMd_goes 9 = .ok (.iload_n 2, 1) := by decide +kernel
theorem dMd_goes_10 : decode cMd_goes 10 = .ok (.ifCond .ne 7, 3) := by decide +kernel
theorem dMd_goes_13 : decode cMd_goes 13 = .ok (.iconst 2, 1) := by decide +kernel
theorem dMd_goes_14 : decode cMd_goes 14 = .ok (.goto 4, 3) := by decide +kernel
theorem dMd_goes_17 : decode cMd_goes 17 = .ok (.iconst 0, 1) := by decide +kernel
theorem dMd_goes_18 : decode cMd_goes 18 = .ok (.putfield 70, 3) := by decide +kernel
theorem dMd_goes_21 : decode cMd_goes 21 = .ok (.aload_n 0, 1) := by decide +kernel
theorem dMd_goes_22 : decode cMd_goes 22 = .ok (.getfield 70, 3) := by decide +kernel
theorem dMd_goes_25 : decode cMd_goes 25 = .ok (.ifCond .ne 7, 3) := by decide +kernel
theorem dMd_goes_28 : decode cMd_goes 28 = .ok (.iconst 1, 1) := by decide +kernel
theorem dMd_goes_29 : decode cMd_goes 29 = .ok (.goto 4, 3) := by decide +kernel
theorem dMd_goes_32 : decode cMd_goes 32 = .ok (.iconst 0, 1) := by decide +kernel
theorem dMd_goes_33 : decode cMd_goes 33 = .ok (.ireturn, 1) := by decide +kernel
theorem dMd_limit_0 : decode cMd_limit 0 = .ok (.aload_n 0, 1) := by decide +kernel
theorem dMd_limit_1 : decode cMd_limit 1 = .ok (.iload_n 1, 1) := by decide +kernel
theorem dMd_limit_2 : decode cMd_limit 2 = .ok (.ifCond .lt 13, 3) := by decide +kernel
theorem dMd_limit_5 : decode cMd_limit 5 = .ok (.iload_n 1, 1) := by decide +kernel
theorem dMd_limit_6 : decode cMd_limit 6 = .ok (.bipush 15, 2) := by decide +kernel
theorem dMd_limit_8 : decode cMd_limit 8 = .ok (.if_icmp .gt 7, 3) := by decide +kernel
theorem dMd_limit_11 : decode cMd_limit 11 = .ok (.iconst 1, 1) := by decide +kernel
theorem dMd_limit_12 : decode cMd_limit 12 = .ok (.goto 4, 3) := by decide +kernel
theorem dMd_limit_15 : decode cMd_limit 15 = .ok (.iconst 0, 1) := by decide +kernel
theorem dMd_limit_16 : decode cMd_limit 16 = .ok (.iconst 1, 1) := by decide +kernel
theorem dMd_limit_17 : decode cMd_limit 17 = .ok (.invokevirtual 88, 3) := by decide +kernel
theorem dMd_limit_20 : decode cMd_limit 20 = .ok (.ifCond .ne 5, 3) := by decide +kernel
theorem dMd_limit_23 : decode cMd_limit 23 = .ok (.iconst 0, 1) := by decide +kernel
theorem dMd_limit_24 : decode cMd_limit 24 = .ok (.ireturn, 1) := by decide +kernel
theorem dMd_limit_25 : decode cMd_limit 25 = .ok (.aload_n 0, 1) := by decide +kernel
theorem dMd_limit_26 : decode cMd_limit 26 = .ok (.getfield 23, 3) := by decide +kernel
theorem dMd_limit_29 : decode cMd_limit 29 = .ok (.istore_n 2, 1) := by decide +kernel
theorem dMd_limit_30 : decode cMd_limit 30 = .ok (.aload_n 0, 1) := by decide +kernel
theorem dMd_limit_31 : decode cMd_limit 31 = .ok (.iload_n 1, 1) := by decide +kernel
theorem dMd_limit_32 : decode cMd_limit 32 = .ok (.putfield 23, 3) := by decide +kernel
theorem dMd_limit_35 : decode cMd_limit 35 = .ok (.iload_n 2, 1) := by decide +kernel
theorem dMd_limit_36 : decode cMd_limit 36 = .ok (.ireturn, 1) := by decide +kernel
theorem dMd_make_0 : decode cMd_make 0 = .ok (.aload_n 0, 1) := by decide +kernel
theorem dMd_make_1 : decode cMd_make 1 = .ok (.iload_n 1, 1) := by decide +kernel
theorem dMd_make_2 : decode cMd_make 2 = .ok (.ifCond .lt 25, 3) := by decide +kernel
theorem dMd_make_5 : decode cMd_make 5 = .ok (.iload_n 1, 1) := by decide +kernel
theorem dMd_make_6 : decode cMd_make 6 = .ok (.sipush 200, 3) := by decide +kernel
theorem dMd_make_9 : decode cMd_make 9 = .ok (.if_icmp .gt 18, 3) := by decide +kernel
theorem dMd_make_12 : decode cMd_make 12 = .ok (.iload_n 2, 1) := by decide +kernel
theorem dMd_make_13 : decode cMd_make 13 = .ok (.ifCond .lt 14, 3) := by decide +kernel
theorem dMd_make_16 : decode cMd_make 16 = .ok (.iload_n 2, 1) := by decide +kernel
theorem dMd_make_17 : decode cMd_make 17 = .ok (.sipush 200, 3) := by decide +kernel
theorem dMd_make_20 : decode cMd_make 20 = .ok (.if_icmp .gt 7, 3) := by decide +kernel
theorem dMd_make_23 : decode cMd_make 23 = .ok (.iconst 1, 1) := by decide +kernel
theorem dMd_make_24 : decode cMd_make 24 = .ok (.goto 4, 3) := by decide +kernel
theorem dMd_make_27 : decode cMd_make 27 = .ok (.iconst 0, 1) := by decide +kernel
theorem dMd_make_28 : decode cMd_make 28 = .ok (.iconst 1, 1) := by decide +kernel
theorem dMd_make_29 : decode cMd_make 29 = .ok (.invokevirtual 88, 3) := by decide +kernel
theorem dMd_make_32 : decode cMd_make 32 = .ok (.ifCond .ne 5, 3) := by decide +kernel
theorem dMd_make_35 : decode cMd_make 35 = .ok (.iconst 0, 1) := by decide +kernel
theorem dMd_make_36 : decode cMd_make 36 = .ok (.ireturn, 1) := by decide +kernel
theorem dMd_make_37 : decode cMd_make 37 = .ok (.iconst 3, 1) := by decide +kernel
theorem dMd_make_38 : decode cMd_make 38 = .ok (.iload_n 1, 1) := by decide +kernel
theorem dMd_make_39 : decode cMd_make 39 = .ok (.iadd, 1) := by decide +kernel
theorem dMd_make_40 : decode cMd_make 40 = .ok (.iload_n 2, 1) := by decide +kernel
theorem dMd_make_41 : decode cMd_make 41 = .ok (.iadd, 1) := by decide +kernel
theorem dMd_make_42 : decode cMd_make 42 = .ok (.istore_n 3, 1) := by decide +kernel
theorem dMd_make_43 : decode cMd_make 43 = .ok (.aload_n 0, 1) := by decide +kernel
theorem dMd_make_44 : decode cMd_make 44 = .ok (.getfield 16, 3) := by decide +kernel
theorem dMd_make_47 : decode cMd_make 47 = .ok (.iconst 0, 1) := by decide +kernel
theorem dMd_make_48 : decode cMd_make 48 = .ok (.iaload, 1) := by decide +kernel
theorem dMd_make_49 : decode cMd_make 49 = .ok (.iload_n 3, 1) := by decide +kernel
theorem dMd_make_50 : decode cMd_make 50 = .ok (.iadd, 1) := by decide +kernel
theorem dMd_make_51 : decode cMd_make 51 = .ok (.aload_n 0, 1) := by decide +kernel
theorem dMd_make_52 : decode cMd_make 52 = .ok (.getfield 7, 3) := by decide +kernel
theorem dMd_make_55 : decode cMd_make 55 = .ok (.iconst 0, 1) := by decide +kernel
theorem dMd_make_56 : decode cMd_make 56 = .ok (.iaload, 1) := by decide +kernel
theorem dMd_make_57 : decode cMd_make 57 = .ok (.aload_n 0, 1) := by decide +kernel
theorem dMd_make_58 : decode cMd_make 58 = .ok (.getfield 13, 3) := by decide +kernel
theorem dMd_make_61 : decode cMd_make 61 = .ok (.iconst 0, 1) := by decide +kernel
theorem dMd_make_62 : decode cMd_make 62 = .ok (.iaload, 1) := by decide +kernel
theorem dMd_make_63 : decode cMd_make 63 = .ok (.iadd, 1) := by decide +kernel
theorem dMd_make_64 : decode cMd_make 64 = .ok (.if_icmp .le 5, 3) := by decide +kernel
theorem dMd_make_67 : decode cMd_make 67 = .ok (.iconst 0, 1) := by decide +kernel
theorem dMd_make_68 : decode cMd_make 68 = .ok (.ireturn, 1) := by decide +kernel
theorem dMd_make_69 : decode cMd_make 69 = .ok (.aload_n 0, 1) := by decide +kernel
theorem dMd_make_70 : decode cMd_make 70 = .ok (.invokevirtual 92, 3) := by decide +kernel
theorem dMd_make_73 : decode cMd_make 73 = .ok (.istore 4, 2) := by decide +kernel
theorem dMd_make_75 : decode cMd_make 75 = .ok (.aload_n 0, 1) := by decide +kernel
theorem dMd_make_76 : decode cMd_make 76 = .ok (.getfield 26, 3) := by decide +kernel
theorem dMd_make_79 : decode cMd_make 79 = .ok (.iload 4, 2) := by decide +kernel
theorem dMd_make_81 : decode cMd_make 81 = .ok (.iconst 1, 1) := by decide +kernel
theorem dMd_make_82 : decode cMd_make 82 = .ok (.bastore, 1) := by decide +kernel
theorem dMd_make_83 : decode cMd_make 83 = .ok (.aload_n 0, 1) := by decide +kernel
theorem dMd_make_84 : decode cMd_make 84 = .ok (.getfield 30, 3) := by decide +kernel
theorem dMd_make_87 : decode cMd_make 87 = .ok (.iload 4, 2) := by decide +kernel
theorem dMd_make_89 : decode cMd_make 89 = .ok (.iconst 0, 1) := by decide +kernel
theorem dMd_make_90 : decode cMd_make 90 = .ok (.iastore, 1) := by decide +kernel
theorem dMd_make_91 : decode cMd_make 91 = .ok (.aload_n 0, 1) := by decide +kernel
theorem dMd_make_92 : decode cMd_make 92 = .ok (.getfield 33, 3) := by decide +kernel
theorem dMd_make_95 : decode cMd_make 95 = .ok (.iload 4, 2) := by decide +kernel
theorem dMd_make_97 : decode cMd_make 97 = .ok (.aload_n 0, 1) := by decide +kernel
theorem dMd_make_98 : decode cMd_make 98 = .ok (.getfield 16, 3) := by decide +kernel
theorem dMd_make_101 : decode cMd_make 101 = .ok (.iconst 0, 1) := by decide +kernel
theorem dMd_make_102 : decode cMd_make 102 = .ok (.iaload, 1) := by decide +kernel
theorem dMd_make_103 : decode cMd_make 103 = .ok (.iastore, 1) := by decide +kernel
theorem dMd_make_104 : decode cMd_make 104 = .ok (.aload_n 0, 1) := by decide +kernel
theorem dMd_make_105 : decode cMd_make 105 = .ok (.getfield 36, 3) := by decide +kernel
theorem dMd_make_108 : decode cMd_make 108 = .ok (.iload 4, 2) := by decide +kernel
theorem dMd_make_110 : decode cMd_make 110 = .ok (.iconst 0, 1) := by decide +kernel
theorem dMd_make_111 : decode cMd_make 111 = .ok (.iastore, 1) := by decide +kernel
theorem dMd_make_112 : decode cMd_make 112 = .ok (.aload_n 0, 1) := by decide +kernel
theorem dMd_make_113 : decode cMd_make 113 = .ok (.getfield 39, 3) := by decide +kernel
theorem dMd_make_116 : decode cMd_make 116 = .ok (.iload 4, 2) := by decide +kernel
theorem dMd_make_118 : decode cMd_make 118 = .ok (.iload_n 1, 1) := by decide +kernel
theorem dMd_make_119 : decode cMd_make 119 = .ok (.iastore, 1) := by decide +kernel
theorem dMd_make_120 : decode cMd_make 120 = .ok (.aload_n 0, 1) := by decide +kernel
theorem dMd_make_121 : decode cMd_make 121 = .ok (.getfield 42, 3) := by decide +kernel
theorem dMd_make_124 : decode cMd_make 124 = .ok (.iload 4, 2) := by decide +kernel
theorem dMd_make_126 : decode cMd_make 126 = .ok (.iload_n 2, 1) := by decide +kernel
theorem dMd_make_127 : decode cMd_make 127 = .ok (.iastore, 1) := by decide +kernel
theorem dMd_make_128 : decode cMd_make 128 = .ok (.aload_n 0, 1) := by decide +kernel
theorem dMd_make_129 : decode cMd_make 129 = .ok (.getfield 45, 3) := by decide +kernel
theorem dMd_make_132 : decode cMd_make 132 = .ok (.iload 4, 2) := by decide +kernel
theorem dMd_make_134 : decode cMd_make 134 = .ok (.aload_n 0, 1) := by decide +kernel
theorem dMd_make_135 : decode cMd_make 135 = .ok (.getfield 73, 3) := by decide +kernel
theorem dMd_make_138 : decode cMd_make 138 = .ok (.iastore, 1) := by decide +kernel
theorem dMd_make_139 : decode cMd_make 139 = .ok (.iconst 0, 1) := by decide +kernel
theorem dMd_make_140 : decode cMd_make 140 = .ok (.istore 5, 2) := by decide +kernel
theorem dMd_make_142 : decode cMd_make 142 = .ok (.iload 5, 2) := by decide +kernel
theorem dMd_make_144 : decode cMd_make 144 = .ok (.iload_n 1, 1) := by decide +kernel
theorem dMd_make_145 : decode cMd_make 145 = .ok (.iload_n 2, 1) := by decide +kernel
theorem dMd_make_146 : decode cMd_make 146 = .ok (.iadd, 1) := by decide +kernel
theorem dMd_make_147 : decode cMd_make 147 = .ok (.if_icmp .ge 29, 3) := by decide +kernel
theorem dMd_make_150 : decode cMd_make 150 = .ok (.aload_n 0, 1) := by decide +kernel
theorem dMd_make_151 : decode cMd_make 151 = .ok (.getfield 48, 3) := by decide +kernel
theorem dMd_make_154 : decode cMd_make 154 = .ok (.aload_n 0, 1) := by decide +kernel
theorem dMd_make_155 : decode cMd_make 155 = .ok (.getfield 73, 3) := by decide +kernel
theorem dMd_make_158 : decode cMd_make 158 = .ok (.iconst 0, 1) := by decide +kernel
theorem dMd_make_159 : decode cMd_make 159 = .ok (.iastore, 1) := by decide +kernel
theorem dMd_make_160 : decode cMd_make 160 = .ok (.aload_n 0, 1) := by decide +kernel
theorem dMd_make_161 : decode cMd_make 161 = .ok (.dup, 1) := by decide +kernel
theorem dMd_make_162 : decode cMd_make 162 = .ok (.getfield 73, 3) := by decide +kernel
theorem dMd_make_165 : decode cMd_make 165 = .ok (.iconst 1, 1) := by decide +kernel
theorem dMd_make_166 : decode cMd_make 166 = .ok (.iadd, 1) := by decide +kernel
theorem dMd_make_167 : decode cMd_make 167 = .ok (.putfield 73, 3) := by decide +kernel
theorem dMd_make_170 : decode cMd_make 170 = .ok (.iinc 5 1, 3) := by decide +kernel
theorem dMd_make_173 : decode cMd_make 173 = .ok (.goto (-31), 3) := by decide +kernel
theorem dMd_make_176 : decode cMd_make 176 = .ok (.aload_n 0, 1) := by decide +kernel
theorem dMd_make_177 : decode cMd_make 177 = .ok (.getfield 16, 3) := by decide +kernel
theorem dMd_make_180 : decode cMd_make 180 = .ok (.iconst 0, 1) := by decide +kernel
theorem dMd_make_181 : decode cMd_make 181 = .ok (.aload_n 0, 1) := by decide +kernel
theorem dMd_make_182 : decode cMd_make 182 = .ok (.getfield 16, 3) := by decide +kernel
theorem dMd_make_185 : decode cMd_make 185 = .ok (.iconst 0, 1) := by decide +kernel
theorem dMd_make_186 : decode cMd_make 186 = .ok (.iaload, 1) := by decide +kernel
theorem dMd_make_187 : decode cMd_make 187 = .ok (.iload_n 3, 1) := by decide +kernel
theorem dMd_make_188 : decode cMd_make 188 = .ok (.iadd, 1) := by decide +kernel
theorem dMd_make_189 : decode cMd_make 189 = .ok (.iastore, 1) := by decide +kernel
theorem dMd_make_190 : decode cMd_make 190 = .ok (.aload_n 0, 1) := by decide +kernel
theorem dMd_make_191 : decode cMd_make 191 = .ok (.getfield 33, 3) := by decide +kernel
theorem dMd_make_194 : decode cMd_make 194 = .ok (.iload 4, 2) := by decide +kernel
theorem dMd_make_196 : decode cMd_make 196 = .ok (.iaload, 1) := by decide +kernel
theorem dMd_make_197 : decode cMd_make 197 = .ok (.ireturn, 1) := by decide +kernel
theorem dMd_freeNumber_0 : decode cMd_freeNumber 0 = .ok (.iconst 0, 1) := by decide +kernel
theorem dMd_freeNumber_1 : decode cMd_freeNumber 1 = .ok (.istore_n 1, 1) := by decide +kernel
theorem dMd_freeNumber_2 : decode cMd_freeNumber 2 = .ok (.aload_n 0, 1) := by decide +kernel
theorem dMd_freeNumber_3 : decode cMd_freeNumber 3 = .ok (.getfield 26, 3) := by decide +kernel
theorem dMd_freeNumber_6 : decode cMd_freeNumber 6 = .ok (.iload_n 1, 1) := by decide +kernel
theorem dMd_freeNumber_7 : decode cMd_freeNumber 7 = .ok (.baload, 1) := by decide +kernel
theorem dMd_freeNumber_8 : decode cMd_freeNumber 8 = .ok (.ifCond .eq 9, 3) := by decide +kernel
theorem dMd_freeNumber_11 : decode cMd_freeNumber 11 = .ok (.iinc 1 1, 3) := by decide +kernel
theorem dMd_freeNumber_14 : decode cMd_freeNumber 14 = .ok (.goto (-12), 3) := by decide +kernel
theorem dMd_freeNumber_17 : decode cMd_freeNumber 17 = .ok (.iload_n 1, 1) := by decide +kernel
theorem dMd_freeNumber_18 : decode cMd_freeNumber 18 = .ok (.ireturn, 1) := by decide +kernel
theorem dMd_set_0 : decode cMd_set 0 = .ok (.aload_n 0, 1) := by decide +kernel
theorem dMd_set_1 : decode cMd_set 1 = .ok (.iload_n 1, 1) := by decide +kernel
theorem dMd_set_2 : decode cMd_set 2 = .ok (.iload_n 2, 1) := by decide +kernel
theorem dMd_set_3 : decode cMd_set 3 = .ok (.invokevirtual 100, 3) := by decide +kernel
theorem dMd_set_6 : decode cMd_set 6 = .ok (.istore 4, 2) := by decide +kernel
theorem dMd_set_8 : decode cMd_set 8 = .ok (.iload_n 3, 1) := by decide +kernel
theorem dMd_set_9 : decode cMd_set 9 = .ok (.ifCond .ne 7, 3) := by decide +kernel
theorem dMd_set_12 : decode cMd_set 12 = .ok (.iconst (-1), 1) := by decide +kernel
theorem dMd_set_13 : decode cMd_set 13 = .ok (.goto 8, 3) := by decide +kernel
theorem dMd_set_16 : decode cMd_set 16 = .ok (.aload_n 0, 1) := by decide +kernel
theorem dMd_set_17 : decode cMd_set 17 = .ok (.iload_n 3, 1) := by decide +kernel
theorem dMd_set_18 : decode cMd_set 18 = .ok (.invokevirtual 96, 3) := by decide +kernel
theorem dMd_set_21 : decode cMd_set 21 = .ok (.istore 5, 2) := by decide +kernel
theorem dMd_set_23 : decode cMd_set 23 = .ok (.aload_n 0, 1) := by decide +kernel
theorem dMd_set_24 : decode cMd_set 24 = .ok (.iload 4, 2) := by decide +kernel
theorem dMd_set_26 : decode cMd_set 26 = .ok (.ifCond .lt 16, 3) := by decide +kernel
theorem dMd_set_29 : decode cMd_set 29 = .ok (.iload_n 3, 1) := by decide +kernel
theorem dMd_set_30 : decode cMd_set 30 = .ok (.ifCond .eq 8, 3) := by decide +kernel
theorem dMd_set_33 : decode cMd_set 33 = .ok (.iload 5, 2) := by decide +kernel
theorem dMd_set_35 : decode cMd_set 35 = .ok (.ifCond .lt 7, 3) := by decide +kernel
theorem dMd_set_38 : decode cMd_set 38 = .ok (.iconst 1, 1) := by decide +kernel
theorem dMd_set_39 : decode cMd_set 39 = .ok (.goto 4, 3) := by decide +kernel
theorem dMd_set_42 : decode cMd_set 42 = .ok (.iconst 0, 1) := by decide +kernel
theorem dMd_set_43 : decode cMd_set 43 = .ok (.iconst 1, 1) := by decide +kernel
theorem dMd_set_44 : decode cMd_set 44 = .ok (.invokevirtual 88, 3) := by decide +kernel
theorem dMd_set_47 : decode cMd_set 47 = .ok (.ifCond .ne 5, 3) := by decide +kernel
theorem dMd_set_50 : decode cMd_set 50 = .ok (.iconst 0, 1) := by decide +kernel
theorem dMd_set_51 : decode cMd_set 51 = .ok (.ireturn, 1) := by decide +kernel
theorem dMd_set_52 : decode cMd_set 52 = .ok (.aload_n 0, 1) := by decide +kernel
theorem dMd_set_53 : decode cMd_set 53 = .ok (.getfield 48, 3) := by decide +kernel
theorem dMd_set_56 : decode cMd_set 56 = .ok (.iload 4, 2) := by decide +kernel
theorem dMd_set_58 : decode cMd_set 58 = .ok (.iaload, 1) := by decide +kernel
theorem dMd_set_59 : decode cMd_set 59 = .ok (.istore 6, 2) := by decide +kernel
theorem dMd_set_61 : decode cMd_set 61 = .ok (.aload_n 0, 1) := by decide +kernel
theorem dMd_set_62 : decode cMd_set 62 = .ok (.getfield 48, 3) := by decide +kernel
theorem dMd_set_65 : decode cMd_set 65 = .ok (.iload 4, 2) := by decide +kernel
theorem dMd_set_67 : decode cMd_set 67 = .ok (.iload 5, 2) := by decide +kernel
theorem dMd_set_69 : decode cMd_set 69 = .ok (.iconst 1, 1) := by decide +kernel
theorem dMd_set_70 : decode cMd_set 70 = .ok (.iadd, 1) := by decide +kernel
theorem dMd_set_71 : decode cMd_set 71 = .ok (.iastore, 1) := by decide +kernel
theorem dMd_set_72 : decode cMd_set 72 = .ok (.aload_n 0, 1) := by decide +kernel
theorem dMd_set_73 : decode cMd_set 73 = .ok (.iload 6, 2) := by decide +kernel
theorem dMd_set_75 : decode cMd_set 75 = .ok (.invokevirtual 104, 3) := by decide +kernel
theorem dMd_set_78 : decode cMd_set 78 = .ok (.ireturn, 1) := by decide +kernel
theorem dMd_field_0 : decode cMd_field 0 = .ok (.aload_n 0, 1) := by decide +kernel
theorem dMd_field_1 : decode cMd_field 1 = .ok (.iload_n 1, 1) := by decide +kernel
theorem dMd_field_2 : decode cMd_field 2 = .ok (.invokevirtual 96, 3) := by decide +kernel
theorem dMd_field_5 : decode cMd_field 5 = .ok (.istore_n 3, 1) := by decide +kernel
theorem dMd_field_6 : decode cMd_field 6 = .ok (.iload_n 3, 1) := by decide +kernel
theorem dMd_field_7 : decode cMd_field 7 = .ok (.ifCond .lt 28, 3) := by decide +kernel
theorem dMd_field_10 : decode cMd_field 10 = .ok (.iload_n 2, 1) := by decide +kernel
theorem dMd_field_11 : decode cMd_field 11 = .ok (.ifCond .lt 24, 3) := by decide +kernel
theorem dMd_field_14 : decode cMd_field 14 = .ok (.iload_n 2, 1) := by decide +kernel
theorem dMd_field_15 : decode cMd_field 15 = .ok (.aload_n 0, 1) := by decide +kernel
theorem dMd_field_16 : decode cMd_field 16 = .ok (.getfield 39, 3) := by decide +kernel
theorem dMd_field_19 : decode cMd_field 19 = .ok (.iload_n 3, 1) := by decide +kernel
theorem dMd_field_20 : decode cMd_field 20 = .ok (.iaload, 1) := by decide +kernel
theorem dMd_field_21 : decode cMd_field 21 = .ok (.if_icmp .ge 14, 3) := by decide +kernel
theorem dMd_field_24 : decode cMd_field 24 = .ok (.aload_n 0, 1) := by decide +kernel
theorem dMd_field_25 : decode cMd_field 25 = .ok (.getfield 45, 3) := by decide +kernel
theorem dMd_field_28 : decode cMd_field 28 = .ok (.iload_n 3, 1) := by decide +kernel
theorem dMd_field_29 : decode cMd_field 29 = .ok (.iaload, 1) := by decide +kernel
theorem dMd_field_30 : decode cMd_field 30 = .ok (.iload_n 2, 1) := by decide +kernel
theorem dMd_field_31 : decode cMd_field 31 = .ok (.iadd, 1) := by decide +kernel
theorem dMd_field_32 : decode cMd_field 32 = .ok (.goto 4, 3) := by decide +kernel
theorem dMd_field_35 : decode cMd_field 35 = .ok (.iconst (-1), 1) := by decide +kernel
theorem dMd_field_36 : decode cMd_field 36 = .ok (.ireturn, 1) := by decide +kernel
theorem dMd_object_0 : decode cMd_object 0 = .ok (.iconst 0, 1) := by decide +kernel
theorem dMd_object_1 : decode cMd_object 1 = .ok (.istore_n 2, 1) := by decide +kernel
theorem dMd_object_2 : decode cMd_object 2 = .ok (.iload_n 2, 1) := by decide +kernel
theorem dMd_object_3 : decode cMd_object 3 = .ok (.sipush 3600, 3) := by decide +kernel
theorem dMd_object_6 : decode cMd_object 6 = .ok (.if_icmp .ge 30, 3) := by decide +kernel
theorem dMd_object_9 : decode cMd_object 9 = .ok (.aload_n 0, 1) := by decide +kernel
theorem dMd_object_10 : decode cMd_object 10 = .ok (.getfield 26, 3) := by decide +kernel
theorem dMd_object_13 : decode cMd_object 13 = .ok (.iload_n 2, 1) := by decide +kernel
theorem dMd_object_14 : decode cMd_object 14 = .ok (.baload, 1) := by decide +kernel
theorem dMd_object_15 : decode cMd_object 15 = .ok (.ifCond .eq 15, 3) := by decide +kernel
theorem dMd_object_18 : decode cMd_object 18 = .ok (.aload_n 0, 1) := by decide +kernel
theorem dMd_object_19 : decode cMd_object 19 = .ok (.getfield 33, 3) := by decide +kernel
theorem dMd_object_22 : decode cMd_object 22 = .ok (.iload_n 2, 1) := by decide +kernel
theorem dMd_object_23 : decode cMd_object 23 = .ok (.iaload, 1) := by decide +kernel
theorem dMd_object_24 : decode cMd_object 24 = .ok (.iload_n 1, 1) := by decide +kernel
theorem dMd_object_25 : decode cMd_object 25 = .ok (.if_icmp .ne 5, 3) := by decide +kernel
theorem dMd_object_28 : decode cMd_object 28 = .ok (.iload_n 2, 1) := by decide +kernel
theorem dMd_object_29 : decode cMd_object 29 = .ok (.ireturn, 1) := by decide +kernel
theorem dMd_object_30 : decode cMd_object 30 = .ok (.iinc 2 1, 3) := by decide +kernel
theorem dMd_object_33 : decode cMd_object 33 = .ok (.goto (-31), 3) := by decide +kernel
theorem dMd_object_36 : decode cMd_object 36 = .ok (.iconst (-1), 1) := by decide +kernel
theorem dMd_object_37 : decode cMd_object 37 = .ok (.ireturn, 1) := by decide +kernel
theorem dMd_told_0 : decode cMd_told 0 = .ok (.iload_n 1, 1) := by decide +kernel
theorem dMd_told_1 : decode cMd_told 1 = .ok (.ifCond .ne 7, 3) := by decide +kernel
theorem dMd_told_4 : decode cMd_told 4 = .ok (.iconst 0, 1) := by decide +kernel
theorem dMd_told_5 : decode cMd_told 5 = .ok (.goto 11, 3) := by decide +kernel
theorem dMd_told_8 : decode cMd_told 8 = .ok (.aload_n 0, 1) := by decide +kernel
theorem dMd_told_9 : decode cMd_told 9 = .ok (.getfield 33, 3) := by decide +kernel
theorem dMd_told_12 : decode cMd_told 12 = .ok (.iload_n 1, 1) := by decide +kernel
theorem dMd_told_13 : decode cMd_told 13 = .ok (.iconst 1, 1) := by decide +kernel
theorem dMd_told_14 : decode cMd_told 14 = .ok (.isub, 1) := by decide +kernel
theorem dMd_told_15 : decode cMd_told 15 = .ok (.iaload, 1) := by decide +kernel
theorem dMd_told_16 : decode cMd_told 16 = .ok (.ireturn, 1) := by decide +kernel
theorem dMd_get_0 : decode cMd_get 0 = .ok (.aload_n 0, 1) := by decide +kernel
theorem dMd_get_1 : decode cMd_get 1 = .ok (.iload_n 1, 1) := by decide +kernel
theorem dMd_get_2 : decode cMd_get 2 = .ok (.iload_n 2, 1) := by decide +kernel
theorem dMd_get_3 : decode cMd_get 3 = .ok (.invokevirtual 100, 3) := by decide +kernel
theorem dMd_get_6 : decode cMd_get 6 = .ok (.istore_n 3, 1) := by decide +kernel
theorem dMd_get_7 : decode cMd_get 7 = .ok (.aload_n 0, 1) := by decide +kernel
theorem dMd_get_8 : decode cMd_get 8 = .ok (.iload_n 3, 1) := by decide +kernel
theorem dMd_get_9 : decode cMd_get 9 = .ok (.ifCond .lt 7, 3) := by decide +kernel
theorem dMd_get_12 : decode cMd_get 12 = .ok (.iconst 1, 1) := by decide +kernel
theorem dMd_get_13 : decode cMd_get 13 = .ok (.goto 4, 3) := by decide +kernel
theorem dMd_get_16 : decode cMd_get 16 = .ok (.iconst 0, 1) := by decide +kernel
theorem dMd_get_17 : decode cMd_get 17 = .ok (.iconst 1, 1) := by decide +kernel
theorem dMd_get_18 : decode cMd_get 18 = .ok (.invokevirtual 88, 3) := by decide +kernel
theorem dMd_get_21 : decode cMd_get 21 = .ok (.ifCond .eq 16, 3) := by decide +kernel
theorem dMd_get_24 : decode cMd_get 24 = .ok (.aload_n 0, 1) := by decide +kernel
theorem dMd_get_25 : decode cMd_get 25 = .ok (.aload_n 0, 1) := by decide +kernel
theorem dMd_get_26 : decode cMd_get 26 = .ok (.getfield 48, 3) := by decide +kernel
theorem dMd_get_29 : decode cMd_get 29 = .ok (.iload_n 3, 1) := by decide +kernel
theorem dMd_get_30 : decode cMd_get 30 = .ok (.iaload, 1) := by decide +kernel
theorem dMd_get_31 : decode cMd_get 31 = .ok (.invokevirtual 104, 3) := by decide +kernel
theorem dMd_get_34 : decode cMd_get 34 = .ok (.goto 4, 3) := by decide +kernel
theorem dMd_get_37 : decode cMd_get 37 = .ok (.iconst 0, 1) := by decide +kernel
theorem dMd_get_38 : decode cMd_get 38 = .ok (.ireturn, 1) := by decide +kernel
theorem dMd_put_0 : decode cMd_put 0 = .ok (.aload_n 0, 1) := by decide +kernel
theorem dMd_put_1 : decode cMd_put 1 = .ok (.iload_n 1, 1) := by decide +kernel
theorem dMd_put_2 : decode cMd_put 2 = .ok (.iload_n 2, 1) := by decide +kernel
theorem dMd_put_3 : decode cMd_put 3 = .ok (.invokevirtual 107, 3) := by decide +kernel
theorem dMd_put_6 : decode cMd_put 6 = .ok (.istore 4, 2) := by decide +kernel
theorem dMd_put_8 : decode cMd_put 8 = .ok (.aload_n 0, 1) := by decide +kernel
theorem dMd_put_9 : decode cMd_put 9 = .ok (.iload 4, 2) := by decide +kernel
theorem dMd_put_11 : decode cMd_put 11 = .ok (.ifCond .lt 7, 3) := by decide +kernel
theorem dMd_put_14 : decode cMd_put 14 = .ok (.iconst 1, 1) := by decide +kernel
theorem dMd_put_15 : decode cMd_put 15 = .ok (.goto 4, 3) := by decide +kernel
theorem dMd_put_18 : decode cMd_put 18 = .ok (.iconst 0, 1) := by decide +kernel
theorem dMd_put_19 : decode cMd_put 19 = .ok (.iconst 1, 1) := by decide +kernel
theorem dMd_put_20 : decode cMd_put 20 = .ok (.invokevirtual 88, 3) := by decide +kernel
theorem dMd_put_23 : decode cMd_put 23 = .ok (.ifCond .ne 5, 3) := by decide +kernel
theorem dMd_put_26 : decode cMd_put 26 = .ok (.iconst 0, 1) := by decide +kernel
theorem dMd_put_27 : decode cMd_put 27 = .ok (.ireturn, 1) := by decide +kernel
theorem dMd_put_28 : decode cMd_put 28 = .ok (.aload_n 0, 1) := by decide +kernel
theorem dMd_put_29 : decode cMd_put 29 = .ok (.getfield 48, 3) := by decide +kernel
theorem dMd_put_32 : decode cMd_put 32 = .ok (.iload 4, 2) := by decide +kernel
theorem dMd_put_34 : decode cMd_put 34 = .ok (.iaload, 1) := by decide +kernel
theorem dMd_put_35 : decode cMd_put 35 = .ok (.istore 5, 2) := by decide +kernel
theorem dMd_put_37 : decode cMd_put 37 = .ok (.aload_n 0, 1) := by decide +kernel
theorem dMd_put_38 : decode cMd_put 38 = .ok (.getfield 48, 3) := by decide +kernel
theorem dMd_put_41 : decode cMd_put 41 = .ok (.iload 4, 2) := by decide +kernel
theorem dMd_put_43 : decode cMd_put 43 = .ok (.iload_n 3, 1) := by decide +kernel
theorem dMd_put_44 : decode cMd_put 44 = .ok (.iastore, 1) := by decide +kernel
theorem dMd_put_45 : decode cMd_put 45 = .ok (.iload 5, 2) := by decide +kernel
theorem dMd_put_47 : decode cMd_put 47 = .ok (.ireturn, 1) := by decide +kernel
theorem dMd_place_0 : decode cMd_place 0 = .ok (.aload_n 0, 1) := by decide +kernel
theorem dMd_place_1 : decode cMd_place 1 = .ok (.iload_n 1, 1) := by decide +kernel
theorem dMd_place_2 : decode cMd_place 2 = .ok (.invokevirtual 96, 3) := by decide +kernel
theorem dMd_place_5 : decode cMd_place 5 = .ok (.istore_n 3, 1) := by decide +kernel
theorem dMd_place_6 : decode cMd_place 6 = .ok (.iload_n 3, 1) := by decide +kernel
theorem dMd_place_7 : decode cMd_place 7 = .ok (.ifCond .lt 35, 3) := by decide +kernel
theorem dMd_place_10 : decode cMd_place 10 = .ok (.iload_n 2, 1) := by decide +kernel
theorem dMd_place_11 : decode cMd_place 11 = .ok (.ifCond .lt 31, 3) := by decide +kernel
theorem dMd_place_14 : decode cMd_place 14 = .ok (.iload_n 2, 1) := by decide +kernel
theorem dMd_place_15 : decode cMd_place 15 = .ok (.aload_n 0, 1) := by decide +kernel
theorem dMd_place_16 : decode cMd_place 16 = .ok (.getfield 42, 3) := by decide +kernel
theorem dMd_place_19 : decode cMd_place 19 = .ok (.iload_n 3, 1) := by decide +kernel
theorem dMd_place_20 : decode cMd_place 20 = .ok (.iaload, 1) := by decide +kernel
theorem dMd_place_21 : decode cMd_place 21 = .ok (.if_icmp .ge 21, 3) := by decide +kernel
theorem dMd_place_24 : decode cMd_place 24 = .ok (.aload_n 0, 1) := by decide +kernel
theorem dMd_place_25 : decode cMd_place 25 = .ok (.getfield 45, 3) := by decide +kernel
theorem dMd_place_28 : decode cMd_place 28 = .ok (.iload_n 3, 1) := by decide +kernel
theorem dMd_place_29 : decode cMd_place 29 = .ok (.iaload, 1) := by decide +kernel
theorem dMd_place_30 : decode cMd_place 30 = .ok (.aload_n 0, 1) := by decide +kernel
theorem dMd_place_31 : decode cMd_place 31 = .ok (.getfield 39, 3) := by decide +kernel
theorem dMd_place_34 : decode cMd_place 34 = .ok (.iload_n 3, 1) := by decide +kernel
theorem dMd_place_35 : decode cMd_place 35 = .ok (.iaload, 1) := by decide +kernel
theorem dMd_place_36 : decode cMd_place 36 = .ok (.iadd, 1) := by decide +kernel
theorem dMd_place_37 : decode cMd_place 37 = .ok (.iload_n 2, 1) := by decide +kernel
theorem dMd_place_38 : decode cMd_place 38 = .ok (.iadd, 1) := by decide +kernel
theorem dMd_place_39 : decode cMd_place 39 = .ok (.goto 4, 3) := by decide +kernel
theorem dMd_place_42 : decode cMd_place 42 = .ok (.iconst (-1), 1) := by decide +kernel
theorem dMd_place_43 : decode cMd_place 43 = .ok (.ireturn, 1) := by decide +kernel
theorem dMd_word_0 : decode cMd_word 0 = .ok (.aload_n 0, 1) := by decide +kernel
theorem dMd_word_1 : decode cMd_word 1 = .ok (.iload_n 1, 1) := by decide +kernel
theorem dMd_word_2 : decode cMd_word 2 = .ok (.iload_n 2, 1) := by decide +kernel
theorem dMd_word_3 : decode cMd_word 3 = .ok (.invokevirtual 107, 3) := by decide +kernel
theorem dMd_word_6 : decode cMd_word 6 = .ok (.istore_n 3, 1) := by decide +kernel
theorem dMd_word_7 : decode cMd_word 7 = .ok (.aload_n 0, 1) := by decide +kernel
theorem dMd_word_8 : decode cMd_word 8 = .ok (.iload_n 3, 1) := by decide +kernel
theorem dMd_word_9 : decode cMd_word 9 = .ok (.ifCond .lt 7, 3) := by decide +kernel
theorem dMd_word_12 : decode cMd_word 12 = .ok (.iconst 1, 1) := by decide +kernel
theorem dMd_word_13 : decode cMd_word 13 = .ok (.goto 4, 3) := by decide +kernel
theorem dMd_word_16 : decode cMd_word 16 = .ok (.iconst 0, 1) := by decide +kernel
theorem dMd_word_17 : decode cMd_word 17 = .ok (.iconst 1, 1) := by decide +kernel
theorem dMd_word_18 : decode cMd_word 18 = .ok (.invokevirtual 88, 3) := by decide +kernel
theorem dMd_word_21 : decode cMd_word 21 = .ok (.ifCond .eq 12, 3) := by decide +kernel
theorem dMd_word_24 : decode cMd_word 24 = .ok (.aload_n 0, 1) := by decide +kernel
theorem dMd_word_25 : decode cMd_word 25 = .ok (.getfield 48, 3) := by decide +kernel
theorem dMd_word_28 : decode cMd_word 28 = .ok (.iload_n 3, 1) := by decide +kernel
theorem dMd_word_29 : decode cMd_word 29 = .ok (.iaload, 1) := by decide +kernel
theorem dMd_word_30 : decode cMd_word 30 = .ok (.goto 4, 3) := by decide +kernel
theorem dMd_word_33 : decode cMd_word 33 = .ok (.iconst 0, 1) := by decide +kernel
theorem dMd_word_34 : decode cMd_word 34 = .ok (.ireturn, 1) := by decide +kernel
theorem dMd_root_0 : decode cMd_root 0 = .ok (.iload_n 2, 1) := by decide +kernel
theorem dMd_root_1 : decode cMd_root 1 = .ok (.ifCond .ne 7, 3) := by decide +kernel
theorem dMd_root_4 : decode cMd_root 4 = .ok (.iconst (-1), 1) := by decide +kernel
theorem dMd_root_5 : decode cMd_root 5 = .ok (.goto 8, 3) := by decide +kernel
theorem dMd_root_8 : decode cMd_root 8 = .ok (.aload_n 0, 1) := by decide +kernel
theorem dMd_root_9 : decode cMd_root 9 = .ok (.iload_n 2, 1) := by decide +kernel
theorem dMd_root_10 : decode cMd_root 10 = .ok (.invokevirtual 96, 3) := by decide +kernel
theorem dMd_root_13 : decode cMd_root 13 = .ok (.istore_n 3, 1) := by decide +kernel
theorem dMd_root_14 : decode cMd_root 14 = .ok (.aload_n 0, 1) := by decide +kernel
theorem dMd_root_15 : decode cMd_root 15 = .ok (.iload_n 1, 1) := by decide +kernel
theorem dMd_root_16 : decode cMd_root 16 = .ok (.ifCond .lt 21, 3) := by decide +kernel
theorem dMd_root_19 : decode cMd_root 19 = .ok (.iload_n 1, 1) := by decide +kernel
theorem dMd_root_20 : decode cMd_root 20 = .ok (.bipush 16, 2) := by decide +kernel
theorem dMd_root_22 : decode cMd_root 22 = .ok (.if_icmp .ge 15, 3) := by decide +kernel
theorem dMd_root_25 : decode cMd_root 25 = .ok (.iload_n 2, 1) := by decide +kernel
theorem dMd_root_26 : decode cMd_root 26 = .ok (.ifCond .eq 7, 3) := by decide +kernel
theorem dMd_root_29 : decode cMd_root 29 = .ok (.iload_n 3, 1) := by decide +kernel
theorem dMd_root_30 : decode cMd_root 30 = .ok (.ifCond .lt 7, 3) := by decide +kernel
theorem dMd_root_33 : decode cMd_root 33 = .ok (.iconst 1, 1) := by decide +kernel
theorem dMd_root_34 : decode cMd_root 34 = .ok (.goto 4, 3) := by decide +kernel
theorem dMd_root_37 : decode cMd_root 37 = .ok (.iconst 0, 1) := by decide +kernel
theorem dMd_root_38 : decode cMd_root 38 = .ok (.iconst 1, 1) := by decide +kernel
theorem dMd_root_39 : decode cMd_root 39 = .ok (.invokevirtual 88, 3) := by decide +kernel
theorem dMd_root_42 : decode cMd_root 42 = .ok (.ifCond .ne 5, 3) := by decide +kernel
theorem dMd_root_45 : decode cMd_root 45 = .ok (.iconst 0, 1) := by decide +kernel
theorem dMd_root_46 : decode cMd_root 46 = .ok (.ireturn, 1) := by decide +kernel
theorem dMd_root_47 : decode cMd_root 47 = .ok (.aload_n 0, 1) := by decide +kernel
theorem dMd_root_48 : decode cMd_root 48 = .ok (.getfield 63, 3) := by decide +kernel
theorem dMd_root_51 : decode cMd_root 51 = .ok (.iload_n 1, 1) := by decide +kernel
theorem dMd_root_52 : decode cMd_root 52 = .ok (.iaload, 1) := by decide +kernel
theorem dMd_root_53 : decode cMd_root 53 = .ok (.istore 4, 2) := by decide +kernel
theorem dMd_root_55 : decode cMd_root 55 = .ok (.aload_n 0, 1) := by decide +kernel
theorem dMd_root_56 : decode cMd_root 56 = .ok (.getfield 63, 3) := by decide +kernel
theorem dMd_root_59 : decode cMd_root 59 = .ok (.iload_n 1, 1) := by decide +kernel
theorem dMd_root_60 : decode cMd_root 60 = .ok (.iload_n 3, 1) := by decide +kernel
theorem dMd_root_61 : decode cMd_root 61 = .ok (.iconst 1, 1) := by decide +kernel
theorem dMd_root_62 : decode cMd_root 62 = .ok (.iadd, 1) := by decide +kernel
theorem dMd_root_63 : decode cMd_root 63 = .ok (.iastore, 1) := by decide +kernel
theorem dMd_root_64 : decode cMd_root 64 = .ok (.aload_n 0, 1) := by decide +kernel
theorem dMd_root_65 : decode cMd_root 65 = .ok (.iload 4, 2) := by decide +kernel
theorem dMd_root_67 : decode cMd_root 67 = .ok (.invokevirtual 104, 3) := by decide +kernel
theorem dMd_root_70 : decode cMd_root 70 = .ok (.ireturn, 1) := by decide +kernel
theorem dMd_rooted_0 : decode cMd_rooted 0 = .ok (.aload_n 0, 1) := by decide +kernel
theorem dMd_rooted_1 : decode cMd_rooted 1 = .ok (.iload_n 1, 1) := by decide +kernel
theorem dMd_rooted_2 : decode cMd_rooted 2 = .ok (.ifCond .lt 13, 3) := by decide +kernel
theorem dMd_rooted_5 : decode cMd_rooted 5 = .ok (.iload_n 1, 1) := by decide +kernel
theorem dMd_rooted_6 : decode cMd_rooted 6 = .ok (.bipush 16, 2) := by decide +kernel
theorem dMd_rooted_8 : decode cMd_rooted 8 = .ok (.if_icmp .ge 7, 3) := by decide +kernel
theorem dMd_rooted_11 : decode cMd_rooted 11 = .ok (.iconst 1, 1) := by decide +kernel
theorem dMd_rooted_12 : decode cMd_rooted 12 = .ok (.goto 4, 3) := by decide +kernel
theorem dMd_rooted_15 : decode cMd_rooted 15 = .ok (.iconst 0, 1) := by decide +kernel
theorem dMd_rooted_16 : decode cMd_rooted 16 = .ok (.iconst 1, 1) := by decide +kernel
theorem dMd_rooted_17 : decode cMd_rooted 17 = .ok (.invokevirtual 88, 3) := by decide +kernel
theorem dMd_rooted_20 : decode cMd_rooted 20 = .ok (.ifCond .eq 16, 3) := by decide +kernel
theorem dMd_rooted_23 : decode cMd_rooted 23 = .ok (.aload_n 0, 1) := by decide +kernel
theorem dMd_rooted_24 : decode cMd_rooted 24 = .ok (.aload_n 0, 1) := by decide +kernel
theorem dMd_rooted_25 : decode cMd_rooted 25 = .ok (.getfield 63, 3) := by decide +kernel
theorem dMd_rooted_28 : decode cMd_rooted 28 = .ok (.iload_n 1, 1) := by decide +kernel
theorem dMd_rooted_29 : decode cMd_rooted 29 = .ok (.iaload, 1) := by decide +kernel
theorem dMd_rooted_30 : decode cMd_rooted 30 = .ok (.invokevirtual 104, 3) := by decide +kernel
theorem dMd_rooted_33 : decode cMd_rooted 33 = .ok (.goto 4, 3) := by decide +kernel
theorem dMd_rooted_36 : decode cMd_rooted 36 = .ok (.iconst 0, 1) := by decide +kernel
theorem dMd_rooted_37 : decode cMd_rooted 37 = .ok (.ireturn, 1) := by decide +kernel
theorem dMd_collect_0 : decode cMd_collect 0 = .ok (.aload_n 0, 1) := by decide +kernel
theorem dMd_collect_1 : decode cMd_collect 1 = .ok (.getfield 16, 3) := by decide +kernel
theorem dMd_collect_4 : decode cMd_collect 4 = .ok (.iconst 0, 1) := by decide +kernel
theorem dMd_collect_5 : decode cMd_collect 5 = .ok (.iaload, 1) := by decide +kernel
theorem dMd_collect_6 : decode cMd_collect 6 = .ok (.aload_n 0, 1) := by decide +kernel
theorem dMd_collect_7 : decode cMd_collect 7 = .ok (.getfield 7, 3) := by decide +kernel
theorem dMd_collect_10 : decode cMd_collect 10 = .ok (.iconst 0, 1) := by decide +kernel
theorem dMd_collect_11 : decode cMd_collect 11 = .ok (.iaload, 1) := by decide +kernel
theorem dMd_collect_12 : decode cMd_collect 12 = .ok (.isub, 1) := by decide +kernel
theorem dMd_collect_13 : decode cMd_collect 13 = .ok (.aload_n 0, 1) := by decide +kernel
theorem dMd_collect_14 : decode cMd_collect 14 = .ok (.getfield 16, 3) := by decide +kernel
theorem dMd_collect_17 : decode cMd_collect 17 = .ok (.aload_n 0, 1) := by decide +kernel
theorem dMd_collect_18 : decode cMd_collect 18 = .ok (.getfield 19, 3) := by decide +kernel
theorem dMd_collect_21 : decode cMd_collect 21 = .ok (.iaload, 1) := by decide +kernel
theorem dMd_collect_22 : decode cMd_collect 22 = .ok (.iadd, 1) := by decide +kernel
theorem dMd_collect_23 : decode cMd_collect 23 = .ok (.aload_n 0, 1) := by decide +kernel
theorem dMd_collect_24 : decode cMd_collect 24 = .ok (.getfield 7, 3) := by decide +kernel
theorem dMd_collect_27 : decode cMd_collect 27 = .ok (.aload_n 0, 1) := by decide +kernel
theorem dMd_collect_28 : decode cMd_collect 28 = .ok (.getfield 19, 3) := by decide +kernel
theorem dMd_collect_31 : decode cMd_collect 31 = .ok (.iaload, 1) := by decide +kernel
theorem dMd_collect_32 : decode cMd_collect 32 = .ok (.isub, 1) := by decide +kernel
theorem dMd_collect_33 : decode cMd_collect 33 = .ok (.istore_n 1, 1) := by decide +kernel
theorem dMd_collect_34 : decode cMd_collect 34 = .ok (.aload_n 0, 1) := by decide +kernel
theorem dMd_collect_35 : decode cMd_collect 35 = .ok (.iload_n 1, 1) := by decide +kernel
theorem dMd_collect_36 : decode cMd_collect 36 = .ok (.aload_n 0, 1) := by decide +kernel
theorem dMd_collect_37 : decode cMd_collect 37 = .ok (.getfield 7, 3) := by decide +kernel
theorem dMd_collect_40 : decode cMd_collect 40 = .ok (.iconst 3, 1) := by decide +kernel
theorem dMd_collect_41 : decode cMd_collect 41 = .ok (.iaload, 1) := by decide +kernel
theorem dMd_collect_42 : decode cMd_collect 42 = .ok (.aload_n 0, 1) := by decide +kernel
theorem dMd_collect_43 : decode cMd_collect 43 = .ok (.getfield 13, 3) := by decide +kernel
theorem dMd_collect_46 : decode cMd_collect 46 = .ok (.iconst 3, 1) := by decide +kernel
theorem dMd_collect_47 : decode cMd_collect 47 = .ok (.iaload, 1) := by decide +kernel
theorem dMd_collect_48 : decode cMd_collect 48 = .ok (.iadd, 1) := by decide +kernel
theorem dMd_collect_49 : decode cMd_collect 49 = .ok (.aload_n 0, 1) := by decide +kernel
theorem dMd_collect_50 : decode cMd_collect 50 = .ok (.getfield 16, 3) := by decide +kernel
theorem dMd_collect_53 : decode cMd_collect 53 = .ok (.iconst 3, 1) := by decide +kernel
theorem dMd_collect_54 : decode cMd_collect 54 = .ok (.iaload, 1) := by decide +kernel
theorem dMd_collect_55 : decode cMd_collect 55 = .ok (.isub, 1) := by decide +kernel
theorem dMd_collect_56 : decode cMd_collect 56 = .ok (.if_icmp .gt 7, 3) := by decide +kernel
theorem dMd_collect_59 : decode cMd_collect 59 = .ok (.iconst 1, 1) := by decide +kernel
theorem dMd_collect_60 : decode cMd_collect 60 = .ok (.goto 4, 3) := by decide +kernel
theorem dMd_collect_63 : decode cMd_collect 63 = .ok (.iconst 0, 1) := by decide +kernel
theorem dMd_collect_64 : decode cMd_collect 64 = .ok (.iconst 1, 1) := by decide +kernel
theorem dMd_collect_65 : decode cMd_collect 65 = .ok (.invokevirtual 88, 3) := by decide +kernel
theorem dMd_collect_68 : decode cMd_collect 68 = .ok (.ifCond .ne 5, 3) := by decide +kernel
theorem dMd_collect_71 : decode cMd_collect 71 = .ok (.iconst 0, 1) := by decide +kernel
theorem dMd_collect_72 : decode cMd_collect 72 = .ok (.ireturn, 1) := by decide +kernel
theorem dMd_collect_73 : decode cMd_collect 73 = .ok (.aload_n 0, 1) := by decide +kernel
theorem dMd_collect_74 : decode cMd_collect 74 = .ok (.iconst 0, 1) := by decide +kernel
theorem dMd_collect_75 : decode cMd_collect 75 = .ok (.putfield 113, 3) := by decide +kernel
theorem dMd_collect_78 : decode cMd_collect 78 = .ok (.aload_n 0, 1) := by decide +kernel
theorem dMd_collect_79 : decode cMd_collect 79 = .ok (.getfield 16, 3) := by decide +kernel
theorem dMd_collect_82 : decode cMd_collect 82 = .ok (.iconst 3, 1) := by decide +kernel
theorem dMd_collect_83 : decode cMd_collect 83 = .ok (.aload_n 0, 1) := by decide +kernel
theorem dMd_collect_84 : decode cMd_collect 84 = .ok (.getfield 19, 3) := by decide +kernel
theorem dMd_collect_87 : decode cMd_collect 87 = .ok (.isub, 1) := by decide +kernel
theorem dMd_collect_88 : decode cMd_collect 88 = .ok (.aload_n 0, 1) := by decide +kernel
theorem dMd_collect_89 : decode cMd_collect 89 = .ok (.getfield 7, 3) := by decide +kernel
theorem dMd_collect_92 : decode cMd_collect 92 = .ok (.iconst 3, 1) := by decide +kernel
theorem dMd_collect_93 : decode cMd_collect 93 = .ok (.aload_n 0, 1) := by decide +kernel
theorem dMd_collect_94 : decode cMd_collect 94 = .ok (.getfield 19, 3) := by decide +kernel
theorem dMd_collect_97 : decode cMd_collect 97 = .ok (.isub, 1) := by decide +kernel
theorem dMd_collect_98 : decode cMd_collect 98 = .ok (.iaload, 1) := by decide +kernel
theorem dMd_collect_99 : decode cMd_collect 99 = .ok (.iastore, 1) := by decide +kernel
theorem dMd_collect_100 : decode cMd_collect 100 = .ok (.iconst 0, 1) := by decide +kernel
theorem dMd_collect_101 : decode cMd_collect 101 = .ok (.istore_n 2, 1) := by decide +kernel
theorem dMd_collect_102 : decode cMd_collect 102 = .ok (.iload_n 2, 1) := by decide +kernel
theorem dMd_collect_103 : decode cMd_collect 103 = .ok (.sipush 3600, 3) := by decide +kernel
theorem dMd_collect_106 : decode cMd_collect 106 = .ok (.if_icmp .ge 16, 3) := by decide +kernel
theorem dMd_collect_109 : decode cMd_collect 109 = .ok (.aload_n 0, 1) := by decide +kernel
theorem dMd_collect_110 : decode cMd_collect 110 = .ok (.getfield 60, 3) := by decide +kernel
theorem dMd_collect_113 : decode cMd_collect 113 = .ok (.iload_n 2, 1) := by decide +kernel
theorem dMd_collect_114 : decode cMd_collect 114 = .ok (.iconst 0, 1) := by decide +kernel
theorem dMd_collect_115 : decode cMd_collect 115 = .ok (.bastore, 1) := by decide +kernel
theorem dMd_collect_116 : decode cMd_collect 116 = .ok (.iinc 2 1, 3) := by decide +kernel
theorem dMd_collect_119 : decode cMd_collect 119 = .ok (.goto (-17), 3) := by decide +kernel
theorem dMd_collect_122 : decode cMd_collect 122 = .ok (.iconst 0, 1) := by decide +kernel
theorem dMd_collect_123 : decode cMd_collect 123 = .ok (.istore_n 2, 1) := by decide +kernel
theorem dMd_collect_124 : decode cMd_collect 124 = .ok (.iload_n 2, 1) := by decide +kernel
theorem dMd_collect_125 : decode cMd_collect 125 = .ok (.bipush 16, 2) := by decide +kernel
theorem dMd_collect_127 : decode cMd_collect 127 = .ok (.if_icmp .ge 19, 3) := by decide +kernel
theorem dMd_collect_130 : decode cMd_collect 130 = .ok (.aload_n 0, 1) := by decide +kernel
theorem dMd_collect_131 : decode cMd_collect 131 = .ok (.aload_n 0, 1) := by decide +kernel
theorem dMd_collect_132 : decode cMd_collect 132 = .ok (.getfield 63, 3) := by decide +kernel
theorem dMd_collect_135 : decode cMd_collect 135 = .ok (.iload_n 2, 1) := by decide +kernel
theorem dMd_collect_136 : decode cMd_collect 136 = .ok (.iaload, 1) := by decide +kernel
theorem dMd_collect_137 : decode cMd_collect 137 = .ok (.invokevirtual 116, 3) := by decide +kernel
theorem dMd_collect_140 : decode cMd_collect 140 = .ok (.iinc 2 1, 3) := by decide +kernel
theorem dMd_collect_143 : decode cMd_collect 143 = .ok (.goto (-19), 3) := by decide +kernel
theorem dMd_collect_146 : decode cMd_collect 146 = .ok (.iconst 0, 1) := by decide +kernel
theorem dMd_collect_147 : decode cMd_collect 147 = .ok (.istore_n 2, 1) := by decide +kernel
theorem dMd_collect_148 : decode cMd_collect 148 = .ok (.iload_n 2, 1) := by decide +kernel
theorem dMd_collect_149 : decode cMd_collect 149 = .ok (.aload_n 0, 1) := by decide +kernel
theorem dMd_collect_150 : decode cMd_collect 150 = .ok (.getfield 76, 3) := by decide +kernel
theorem dMd_collect_153 : decode cMd_collect 153 = .ok (.if_icmp .ge 19, 3) := by decide +kernel
theorem dMd_collect_156 : decode cMd_collect 156 = .ok (.aload_n 0, 1) := by decide +kernel
theorem dMd_collect_157 : decode cMd_collect 157 = .ok (.aload_n 0, 1) := by decide +kernel
theorem dMd_collect_158 : decode cMd_collect 158 = .ok (.getfield 54, 3) := by decide +kernel
theorem dMd_collect_161 : decode cMd_collect 161 = .ok (.iload_n 2, 1) := by decide +kernel
theorem dMd_collect_162 : decode cMd_collect 162 = .ok (.iaload, 1) := by decide +kernel
theorem dMd_collect_163 : decode cMd_collect 163 = .ok (.invokevirtual 120, 3) := by decide +kernel
theorem dMd_collect_166 : decode cMd_collect 166 = .ok (.iinc 2 1, 3) := by decide +kernel
theorem dMd_collect_169 : decode cMd_collect 169 = .ok (.goto (-21), 3) := by decide +kernel
theorem dMd_collect_172 : decode cMd_collect 172 = .ok (.iconst 0, 1) := by decide +kernel
theorem dMd_collect_173 : decode cMd_collect 173 = .ok (.istore_n 2, 1) := by decide +kernel
theorem dMd_collect_174 : decode cMd_collect 174 = .ok (.iload_n 2, 1) := by decide +kernel
theorem dMd_collect_175 : decode cMd_collect 175 = .ok (.aload_n 0, 1) := by decide +kernel
theorem dMd_collect_176 : decode cMd_collect 176 = .ok (.getfield 113, 3) := by decide +kernel
theorem dMd_collect_179 : decode cMd_collect 179 = .ok (.if_icmp .ge 19, 3) := by decide +kernel
theorem dMd_collect_182 : decode cMd_collect 182 = .ok (.aload_n 0, 1) := by decide +kernel
theorem dMd_collect_183 : decode cMd_collect 183 = .ok (.aload_n 0, 1) := by decide +kernel
theorem dMd_collect_184 : decode cMd_collect 184 = .ok (.getfield 57, 3) := by decide +kernel
theorem dMd_collect_187 : decode cMd_collect 187 = .ok (.iload_n 2, 1) := by decide +kernel
theorem dMd_collect_188 : decode cMd_collect 188 = .ok (.iaload, 1) := by decide +kernel
theorem dMd_collect_189 : decode cMd_collect 189 = .ok (.invokevirtual 120, 3) := by decide +kernel
theorem dMd_collect_192 : decode cMd_collect 192 = .ok (.iinc 2 1, 3) := by decide +kernel
theorem dMd_collect_195 : decode cMd_collect 195 = .ok (.goto (-21), 3) := by decide +kernel
theorem dMd_collect_198 : decode cMd_collect 198 = .ok (.iconst 0, 1) := by decide +kernel
theorem dMd_collect_199 : decode cMd_collect 199 = .ok (.istore_n 2, 1) := by decide +kernel
theorem dMd_collect_200 : decode cMd_collect 200 = .ok (.iload_n 2, 1) := by decide +kernel
theorem dMd_collect_201 : decode cMd_collect 201 = .ok (.sipush 3600, 3) := by decide +kernel
theorem dMd_collect_204 : decode cMd_collect 204 = .ok (.if_icmp .ge 48, 3) := by decide +kernel
theorem dMd_collect_207 : decode cMd_collect 207 = .ok (.aload_n 0, 1) := by decide +kernel
theorem dMd_collect_208 : decode cMd_collect 208 = .ok (.getfield 26, 3) := by decide +kernel
theorem dMd_collect_211 : decode cMd_collect 211 = .ok (.iload_n 2, 1) := by decide +kernel
theorem dMd_collect_212 : decode cMd_collect 212 = .ok (.aload_n 0, 1) := by decide +kernel
theorem dMd_collect_213 : decode cMd_collect 213 = .ok (.getfield 26, 3) := by decide +kernel
theorem dMd_collect_216 : decode cMd_collect 216 = .ok (.iload_n 2, 1) := by decide +kernel
theorem dMd_collect_217 : decode cMd_collect 217 = .ok (.baload, 1) := by decide +kernel
theorem dMd_collect_218 : decode cMd_collect 218 = .ok (.ifCond .eq 26, 3) := by decide +kernel
theorem dMd_collect_221 : decode cMd_collect 221 = .ok (.aload_n 0, 1) := by decide +kernel
theorem dMd_collect_222 : decode cMd_collect 222 = .ok (.getfield 30, 3) := by decide +kernel
theorem dMd_collect_225 : decode cMd_collect 225 = .ok (.iload_n 2, 1) := by decide +kernel
theorem dMd_collect_226 : decode cMd_collect 226 = .ok (.iaload, 1) := by decide +kernel
theorem dMd_collect_227 : decode cMd_collect 227 = .ok (.iconst 3, 1) := by decide +kernel
theorem dMd_collect_228 : decode cMd_collect 228 = .ok (.if_icmp .eq 12, 3) := by decide +kernel
theorem dMd_collect_231 : decode cMd_collect 231 = .ok (.aload_n 0, 1) := by decide +kernel
theorem dMd_collect_232 : decode cMd_collect 232 = .ok (.getfield 60, 3) := by decide +kernel
theorem dMd_collect_235 : decode cMd_collect 235 = .ok (.iload_n 2, 1) := by decide +kernel
theorem dMd_collect_236 : decode cMd_collect 236 = .ok (.baload, 1) := by decide +kernel
theorem dMd_collect_237 : decode cMd_collect 237 = .ok (.ifCond .eq 7, 3) := by decide +kernel
theorem dMd_collect_240 : decode cMd_collect 240 = .ok (.iconst 1, 1) := by decide +kernel
theorem dMd_collect_241 : decode cMd_collect 241 = .ok (.goto 4, 3) := by decide +kernel
theorem dMd_collect_244 : decode cMd_collect 244 = .ok (.iconst 0, 1) := by decide +kernel
theorem dMd_collect_245 : decode cMd_collect 245 = .ok (.bastore, 1) := by decide +kernel
theorem dMd_collect_246 : decode cMd_collect 246 = .ok (.iinc 2 1, 3) := by decide +kernel
theorem dMd_collect_249 : decode cMd_collect 249 = .ok (.goto (-49), 3) := by decide +kernel
theorem dMd_collect_252 : decode cMd_collect 252 = .ok (.iconst 0, 1) := by decide +kernel
theorem dMd_collect_253 : decode cMd_collect 253 = .ok (.istore_n 2, 1) := by decide +kernel
theorem dMd_collect_254 : decode cMd_collect 254 = .ok (.iload_n 2, 1) := by decide +kernel
theorem dMd_collect_255 : decode cMd_collect 255 = .ok (.aload_n 0, 1) := by decide +kernel
theorem dMd_collect_256 : decode cMd_collect 256 = .ok (.getfield 113, 3) := by decide +kernel
theorem dMd_collect_259 : decode cMd_collect 259 = .ok (.if_icmp .ge 49, 3) := by decide +kernel
theorem dMd_collect_262 : decode cMd_collect 262 = .ok (.aload_n 0, 1) := by decide +kernel
theorem dMd_collect_263 : decode cMd_collect 263 = .ok (.getfield 30, 3) := by decide +kernel
theorem dMd_collect_266 : decode cMd_collect 266 = .ok (.aload_n 0, 1) := by decide +kernel
theorem dMd_collect_267 : decode cMd_collect 267 = .ok (.getfield 57, 3) := by decide +kernel
theorem dMd_collect_270 : decode cMd_collect 270 = .ok (.iload_n 2, 1) := by decide +kernel
theorem dMd_collect_271 : decode cMd_collect 271 = .ok (.iaload, 1) := by decide +kernel
theorem dMd_collect_272 : decode cMd_collect 272 = .ok (.iaload, 1) := by decide +kernel
theorem dMd_collect_273 : decode cMd_collect 273 = .ok (.iconst 3, 1) := by decide +kernel
theorem dMd_collect_274 : decode cMd_collect 274 = .ok (.if_icmp .ne 28, 3) := by decide +kernel
theorem dMd_collect_277 : decode cMd_collect 277 = .ok (.aload_n 0, 1) := by decide +kernel
theorem dMd_collect_278 : decode cMd_collect 278 = .ok (.getfield 54, 3) := by decide +kernel
theorem dMd_collect_281 : decode cMd_collect 281 = .ok (.aload_n 0, 1) := by decide +kernel
theorem dMd_collect_282 : decode cMd_collect 282 = .ok (.getfield 76, 3) := by decide +kernel
theorem dMd_collect_285 : decode cMd_collect 285 = .ok (.aload_n 0, 1) := by decide +kernel
theorem dMd_collect_286 : decode cMd_collect 286 = .ok (.getfield 57, 3) := by decide +kernel
theorem dMd_collect_289 : decode cMd_collect 289 = .ok (.iload_n 2, 1) := by decide +kernel
theorem dMd_collect_290 : decode cMd_collect 290 = .ok (.iaload, 1) := by decide +kernel
theorem dMd_collect_291 : decode cMd_collect 291 = .ok (.iastore, 1) := by decide +kernel
theorem dMd_collect_292 : decode cMd_collect 292 = .ok (.aload_n 0, 1) := by decide +kernel
theorem dMd_collect_293 : decode cMd_collect 293 = .ok (.dup, 1) := by decide +kernel
theorem dMd_collect_294 : decode cMd_collect 294 = .ok (.getfield 76, 3) := by decide +kernel
theorem dMd_collect_297 : decode cMd_collect 297 = .ok (.iconst 1, 1) := by decide +kernel
theorem dMd_collect_298 : decode cMd_collect 298 = .ok (.iadd, 1) := by decide +kernel
theorem dMd_collect_299 : decode cMd_collect 299 = .ok (.putfield 76, 3) := by decide +kernel
theorem dMd_collect_302 : decode cMd_collect 302 = .ok (.iinc 2 1, 3) := by decide +kernel
theorem dMd_collect_305 : decode cMd_collect 305 = .ok (.goto (-51), 3) := by decide +kernel
theorem dMd_collect_308 : decode cMd_collect 308 = .ok (.aload_n 0, 1) := by decide +kernel
theorem dMd_collect_309 : decode cMd_collect 309 = .ok (.getfield 16, 3) := by decide +kernel
theorem dMd_collect_312 : decode cMd_collect 312 = .ok (.iconst 0, 1) := by decide +kernel
theorem dMd_collect_313 : decode cMd_collect 313 = .ok (.aload_n 0, 1) := by decide +kernel
theorem dMd_collect_314 : decode cMd_collect 314 = .ok (.getfield 7, 3) := by decide +kernel
theorem dMd_collect_317 : decode cMd_collect 317 = .ok (.iconst 0, 1) := by decide +kernel
theorem dMd_collect_318 : decode cMd_collect 318 = .ok (.iaload, 1) := by decide +kernel
theorem dMd_collect_319 : decode cMd_collect 319 = .ok (.iastore, 1) := by decide +kernel
theorem dMd_collect_320 : decode cMd_collect 320 = .ok (.aload_n 0, 1) := by decide +kernel
theorem dMd_collect_321 : decode cMd_collect 321 = .ok (.getfield 16, 3) := by decide +kernel
theorem dMd_collect_324 : decode cMd_collect 324 = .ok (.aload_n 0, 1) := by decide +kernel
theorem dMd_collect_325 : decode cMd_collect 325 = .ok (.getfield 19, 3) := by decide +kernel
theorem dMd_collect_328 : decode cMd_collect 328 = .ok (.aload_n 0, 1) := by decide +kernel
theorem dMd_collect_329 : decode cMd_collect 329 = .ok (.getfield 7, 3) := by decide +kernel
theorem dMd_collect_332 : decode cMd_collect 332 = .ok (.aload_n 0, 1) := by decide +kernel
theorem dMd_collect_333 : decode cMd_collect 333 = .ok (.getfield 19, 3) := by decide +kernel
theorem dMd_collect_336 : decode cMd_collect 336 = .ok (.iaload, 1) := by decide +kernel
theorem dMd_collect_337 : decode cMd_collect 337 = .ok (.iastore, 1) := by decide +kernel
theorem dMd_collect_338 : decode cMd_collect 338 = .ok (.aload_n 0, 1) := by decide +kernel
theorem dMd_collect_339 : decode cMd_collect 339 = .ok (.iconst 3, 1) := by decide +kernel
theorem dMd_collect_340 : decode cMd_collect 340 = .ok (.aload_n 0, 1) := by decide +kernel
theorem dMd_collect_341 : decode cMd_collect 341 = .ok (.getfield 19, 3) := by decide +kernel
theorem dMd_collect_344 : decode cMd_collect 344 = .ok (.isub, 1) := by decide +kernel
theorem dMd_collect_345 : decode cMd_collect 345 = .ok (.putfield 19, 3) := by decide +kernel
theorem dMd_collect_348 : decode cMd_collect 348 = .ok (.aload_n 0, 1) := by decide +kernel
theorem dMd_collect_349 : decode cMd_collect 349 = .ok (.dup, 1) := by decide +kernel
theorem dMd_collect_350 : decode cMd_collect 350 = .ok (.getfield 79, 3) := by decide +kernel
theorem dMd_collect_353 : decode cMd_collect 353 = .ok (.iconst 1, 1) := by decide +kernel
theorem dMd_collect_354 : decode cMd_collect 354 = .ok (.iadd, 1) := by decide +kernel
theorem dMd_collect_355 : decode cMd_collect 355 = .ok (.putfield 79, 3) := by decide +kernel
theorem dMd_collect_358 : decode cMd_collect 358 = .ok (.aload_n 0, 1) := by decide +kernel
theorem dMd_collect_359 : decode cMd_collect 359 = .ok (.invokevirtual 123, 3) := by decide +kernel
theorem dMd_collect_362 : decode cMd_collect 362 = .ok (.aload_n 0, 1) := by decide +kernel
theorem dMd_collect_363 : decode cMd_collect 363 = .ok (.getfield 113, 3) := by decide +kernel
theorem dMd_collect_366 : decode cMd_collect 366 = .ok (.ireturn, 1) := by decide +kernel
theorem dMd_find_0 : decode cMd_find 0 = .ok (.iload_n 1, 1) := by decide +kernel
theorem dMd_find_1 : decode cMd_find 1 = .ok (.iconst 1, 1) := by decide +kernel
theorem dMd_find_2 : decode cMd_find 2 = .ok (.isub, 1) := by decide +kernel
theorem dMd_find_3 : decode cMd_find 3 = .ok (.istore_n 2, 1) := by decide +kernel
theorem dMd_find_4 : decode cMd_find 4 = .ok (.iload_n 2, 1) := by decide +kernel
theorem dMd_find_5 : decode cMd_find 5 = .ok (.ifCond .lt 22, 3) := by decide +kernel
theorem dMd_find_8 : decode cMd_find 8 = .ok (.aload_n 0, 1) := by decide +kernel
theorem dMd_find_9 : decode cMd_find 9 = .ok (.getfield 30, 3) := by decide +kernel
theorem dMd_find_12 : decode cMd_find 12 = .ok (.iload_n 2, 1) := by decide +kernel
theorem dMd_find_13 : decode cMd_find 13 = .ok (.iaload, 1) := by decide +kernel
theorem dMd_find_14 : decode cMd_find 14 = .ok (.iconst 3, 1) := by decide +kernel
theorem dMd_find_15 : decode cMd_find 15 = .ok (.if_icmp .eq 12, 3) := by decide +kernel
theorem dMd_find_18 : decode cMd_find 18 = .ok (.aload_n 0, 1) := by decide +kernel
theorem dMd_find_19 : decode cMd_find 19 = .ok (.getfield 60, 3) := by decide +kernel
theorem dMd_find_22 : decode cMd_find 22 = .ok (.iload_n 2, 1) := by decide +kernel
theorem dMd_find_23 : decode cMd_find 23 = .ok (.baload, 1) := by decide +kernel
theorem dMd_find_24 : decode cMd_find 24 = .ok (.ifCond .eq 4, 3) := by decide +kernel
theorem dMd_find_27 : decode cMd_find 27 = .ok (.return_, 1) := by decide +kernel
theorem dMd_find_28 : decode cMd_find 28 = .ok (.iconst 3, 1) := by decide +kernel
theorem dMd_find_29 : decode cMd_find 29 = .ok (.aload_n 0, 1) := by decide +kernel
theorem dMd_find_30 : decode cMd_find 30 = .ok (.getfield 19, 3) := by decide +kernel
theorem dMd_find_33 : decode cMd_find 33 = .ok (.isub, 1) := by decide +kernel
theorem dMd_find_34 : decode cMd_find 34 = .ok (.istore_n 3, 1) := by decide +kernel
theorem dMd_find_35 : decode cMd_find 35 = .ok (.aload_n 0, 1) := by decide +kernel
theorem dMd_find_36 : decode cMd_find 36 = .ok (.getfield 36, 3) := by decide +kernel
theorem dMd_find_39 : decode cMd_find 39 = .ok (.iload_n 2, 1) := by decide +kernel
theorem dMd_find_40 : decode cMd_find 40 = .ok (.iaload, 1) := by decide +kernel
theorem dMd_find_41 : decode cMd_find 41 = .ok (.aload_n 0, 1) := by decide +kernel
theorem dMd_find_42 : decode cMd_find 42 = .ok (.getfield 23, 3) := by decide +kernel
theorem dMd_find_45 : decode cMd_find 45 = .ok (.if_icmp .ge 35, 3) := by decide +kernel
theorem dMd_find_48 : decode cMd_find 48 = .ok (.aload_n 0, 1) := by decide +kernel
theorem dMd_find_49 : decode cMd_find 49 = .ok (.getfield 16, 3) := by decide +kernel
theorem dMd_find_52 : decode cMd_find 52 = .ok (.iload_n 3, 1) := by decide +kernel
theorem dMd_find_53 : decode cMd_find 53 = .ok (.iaload, 1) := by decide +kernel
theorem dMd_find_54 : decode cMd_find 54 = .ok (.aload_n 0, 1) := by decide +kernel
theorem dMd_find_55 : decode cMd_find 55 = .ok (.iload_n 2, 1) := by decide +kernel
theorem dMd_find_56 : decode cMd_find 56 = .ok (.invokevirtual 110, 3) := by decide +kernel
theorem dMd_find_59 : decode cMd_find 59 = .ok (.iadd, 1) := by decide +kernel
theorem dMd_find_60 : decode cMd_find 60 = .ok (.aload_n 0, 1) := by decide +kernel
theorem dMd_find_61 : decode cMd_find 61 = .ok (.getfield 7, 3) := by decide +kernel
theorem dMd_find_64 : decode cMd_find 64 = .ok (.iload_n 3, 1) := by decide +kernel
theorem dMd_find_65 : decode cMd_find 65 = .ok (.iaload, 1) := by decide +kernel
theorem dMd_find_66 : decode cMd_find 66 = .ok (.aload_n 0, 1) := by decide +kernel
theorem dMd_find_67 : decode cMd_find 67 = .ok (.getfield 13, 3) := by decide +kernel
theorem dMd_find_70 : decode cMd_find 70 = .ok (.iload_n 3, 1) := by decide +kernel
theorem dMd_find_71 : decode cMd_find 71 = .ok (.iaload, 1) := by decide +kernel
theorem dMd_find_72 : decode cMd_find 72 = .ok (.iadd, 1) := by decide +kernel
theorem dMd_find_73 : decode cMd_find 73 = .ok (.if_icmp .gt 7, 3) := by decide +kernel
theorem dMd_find_76 : decode cMd_find 76 = .ok (.iconst 1, 1) := by decide +kernel
theorem dMd_find_77 : decode cMd_find 77 = .ok (.goto 4, 3) := by decide +kernel
theorem dMd_find_80 : decode cMd_find 80 = .ok (.iconst 0, 1) := by decide +kernel
theorem dMd_find_81 : decode cMd_find 81 = .ok (.istore 4, 2) := by decide +kernel
theorem dMd_find_83 : decode cMd_find 83 = .ok (.iload 4, 2) := by decide +kernel
theorem dMd_find_85 : decode cMd_find 85 = .ok (.ifCond .eq 7, 3) := by decide +kernel
theorem dMd_find_88 : decode cMd_find 88 = .ok (.iload_n 3, 1) := by decide +kernel
theorem dMd_find_89 : decode cMd_find 89 = .ok (.goto 4, 3) := by decide +kernel
theorem dMd_find_92 : decode cMd_find 92 = .ok (.iconst 3, 1) := by decide +kernel
theorem dMd_find_93 : decode cMd_find 93 = .ok (.istore 5, 2) := by decide +kernel
theorem dMd_find_95 : decode cMd_find 95 = .ok (.aload_n 0, 1) := by decide +kernel
theorem dMd_find_96 : decode cMd_find 96 = .ok (.getfield 30, 3) := by decide +kernel
theorem dMd_find_99 : decode cMd_find 99 = .ok (.iload_n 2, 1) := by decide +kernel
theorem dMd_find_100 : decode cMd_find 100 = .ok (.iload 5, 2) := by decide +kernel
theorem dMd_find_102 : decode cMd_find 102 = .ok (.iastore, 1) := by decide +kernel
theorem dMd_find_103 : decode cMd_find 103 = .ok (.aload_n 0, 1) := by decide +kernel
theorem dMd_find_104 : decode cMd_find 104 = .ok (.getfield 33, 3) := by decide +kernel
theorem dMd_find_107 : decode cMd_find 107 = .ok (.iload_n 2, 1) := by decide +kernel
theorem dMd_find_108 : decode cMd_find 108 = .ok (.aload_n 0, 1) := by decide +kernel
theorem dMd_find_109 : decode cMd_find 109 = .ok (.getfield 16, 3) := by decide +kernel
theorem dMd_find_112 : decode cMd_find 112 = .ok (.iload 5, 2) := by decide +kernel
theorem dMd_find_114 : decode cMd_find 114 = .ok (.iaload, 1) := by decide +kernel
theorem dMd_find_115 : decode cMd_find 115 = .ok (.iastore, 1) := by decide +kernel
theorem dMd_find_116 : decode cMd_find 116 = .ok (.aload_n 0, 1) := by decide +kernel
theorem dMd_find_117 : decode cMd_find 117 = .ok (.getfield 16, 3) := by decide +kernel
theorem dMd_find_120 : decode cMd_find 120 = .ok (.iload 5, 2) := by decide +kernel
theorem dMd_find_122 : decode cMd_find 122 = .ok (.aload_n 0, 1) := by decide +kernel
theorem dMd_find_123 : decode cMd_find 123 = .ok (.getfield 16, 3) := by decide +kernel
theorem dMd_find_126 : decode cMd_find 126 = .ok (.iload 5, 2) := by decide +kernel
theorem dMd_find_128 : decode cMd_find 128 = .ok (.iaload, 1) := by decide +kernel
theorem dMd_find_129 : decode cMd_find 129 = .ok (.aload_n 0, 1) := by decide +kernel
theorem dMd_find_130 : decode cMd_find 130 = .ok (.iload_n 2, 1) := by decide +kernel
theorem dMd_find_131 : decode cMd_find 131 = .ok (.invokevirtual 110, 3) := by decide +kernel
theorem dMd_find_134 : decode cMd_find 134 = .ok (.iadd, 1) := by decide +kernel
theorem dMd_find_135 : decode cMd_find 135 = .ok (.iastore, 1) := by decide +kernel
theorem dMd_find_136 : decode cMd_find 136 = .ok (.aload_n 0, 1) := by decide +kernel
theorem dMd_find_137 : decode cMd_find 137 = .ok (.getfield 36, 3) := by decide +kernel
theorem dMd_find_140 : decode cMd_find 140 = .ok (.iload_n 2, 1) := by decide +kernel
theorem dMd_find_141 : decode cMd_find 141 = .ok (.iload 4, 2) := by decide +kernel
theorem dMd_find_143 : decode cMd_find 143 = .ok (.ifCond .eq 14, 3) := by decide +kernel
theorem dMd_find_146 : decode cMd_find 146 = .ok (.aload_n 0, 1) := by decide +kernel
theorem dMd_find_147 : decode cMd_find 147 = .ok (.getfield 36, 3) := by decide +kernel
theorem dMd_find_150 : decode cMd_find 150 = .ok (.iload_n 2, 1) := by decide +kernel
theorem dMd_find_151 : decode cMd_find 151 = .ok (.iaload, 1) := by decide +kernel
theorem dMd_find_152 : decode cMd_find 152 = .ok (.iconst 1, 1) := by decide +kernel
theorem dMd_find_153 : decode cMd_find 153 = .ok (.iadd, 1) := by decide +kernel
theorem dMd_find_154 : decode cMd_find 154 = .ok (.goto 9, 3) := by decide +kernel
theorem dMd_find_157 : decode cMd_find 157 = .ok (.aload_n 0, 1) := by decide +kernel
theorem dMd_find_158 : decode cMd_find 158 = .ok (.getfield 36, 3) := by decide +kernel
theorem dMd_find_161 : decode cMd_find 161 = .ok (.iload_n 2, 1) := by decide +kernel
theorem dMd_find_162 : decode cMd_find 162 = .ok (.iaload, 1) := by decide +kernel
theorem dMd_find_163 : decode cMd_find 163 = .ok (.iastore, 1) := by decide +kernel
theorem dMd_find_164 : decode cMd_find 164 = .ok (.aload_n 0, 1) := by decide +kernel
theorem dMd_find_165 : decode cMd_find 165 = .ok (.iload 4, 2) := by decide +kernel
theorem dMd_find_167 : decode cMd_find 167 = .ok (.ifCond .eq 12, 3) := by decide +kernel
theorem dMd_find_170 : decode cMd_find 170 = .ok (.aload_n 0, 1) := by decide +kernel
theorem dMd_find_171 : decode cMd_find 171 = .ok (.getfield 82, 3) := by decide +kernel
theorem dMd_find_174 : decode cMd_find 174 = .ok (.iconst 1, 1) := by decide +kernel
theorem dMd_find_175 : decode cMd_find 175 = .ok (.iadd, 1) := by decide +kernel
theorem dMd_find_176 : decode cMd_find 176 = .ok (.goto 7, 3) := by decide +kernel
theorem dMd_find_179 : decode cMd_find 179 = .ok (.aload_n 0, 1) := by decide +kernel
theorem dMd_find_180 : decode cMd_find 180 = .ok (.getfield 82, 3) := by decide +kernel
theorem dMd_find_183 : decode cMd_find 183 = .ok (.putfield 82, 3) := by decide +kernel
theorem dMd_find_186 : decode cMd_find 186 = .ok (.aload_n 0, 1) := by decide +kernel
theorem dMd_find_187 : decode cMd_find 187 = .ok (.iload 4, 2) := by decide +kernel
theorem dMd_find_189 : decode cMd_find 189 = .ok (.ifCond .eq 10, 3) := by decide +kernel
theorem dMd_find_192 : decode cMd_find 192 = .ok (.aload_n 0, 1) := by decide +kernel
theorem dMd_find_193 : decode cMd_find 193 = .ok (.getfield 85, 3) := by decide +kernel
theorem dMd_find_196 : decode cMd_find 196 = .ok (.goto 9, 3) := by decide +kernel
theorem dMd_find_199 : decode cMd_find 199 = .ok (.aload_n 0, 1) := by decide +kernel
theorem dMd_find_200 : decode cMd_find 200 = .ok (.getfield 85, 3) := by decide +kernel
theorem dMd_find_203 : decode cMd_find 203 = .ok (.iconst 1, 1) := by decide +kernel
theorem dMd_find_204 : decode cMd_find 204 = .ok (.iadd, 1) := by decide +kernel
theorem dMd_find_205 : decode cMd_find 205 = .ok (.putfield 85, 3) := by decide +kernel
theorem dMd_find_208 : decode cMd_find 208 = .ok (.aload_n 0, 1) := by decide +kernel
theorem dMd_find_209 : decode cMd_find 209 = .ok (.getfield 60, 3) := by decide +kernel
theorem dMd_find_212 : decode cMd_find 212 = .ok (.iload_n 2, 1) := by decide +kernel
theorem dMd_find_213 : decode cMd_find 213 = .ok (.iconst 1, 1) := by decide +kernel
theorem dMd_find_214 : decode cMd_find 214 = .ok (.bastore, 1) := by decide +kernel
theorem dMd_find_215 : decode cMd_find 215 = .ok (.aload_n 0, 1) := by decide +kernel
theorem dMd_find_216 : decode cMd_find 216 = .ok (.getfield 57, 3) := by decide +kernel
theorem dMd_find_219 : decode cMd_find 219 = .ok (.aload_n 0, 1) := by decide +kernel
theorem dMd_find_220 : decode cMd_find 220 = .ok (.getfield 113, 3) := by decide +kernel
theorem dMd_find_223 : decode cMd_find 223 = .ok (.iload_n 2, 1) := by decide +kernel
theorem dMd_find_224 : decode cMd_find 224 = .ok (.iastore, 1) := by decide +kernel
theorem dMd_find_225 : decode cMd_find 225 = .ok (.aload_n 0, 1) := by decide +kernel
theorem dMd_find_226 : decode cMd_find 226 = .ok (.dup, 1) := by decide +kernel
theorem dMd_find_227 : decode cMd_find 227 = .ok (.getfield 113, 3) := by decide +kernel
theorem dMd_find_230 : decode cMd_find 230 = .ok (.iconst 1, 1) := by decide +kernel
theorem dMd_find_231 : decode cMd_find 231 = .ok (.iadd, 1) := by decide +kernel
theorem dMd_find_232 : decode cMd_find 232 = .ok (.putfield 113, 3) := by decide +kernel
theorem dMd_find_235 : decode cMd_find 235 = .ok (.return_, 1) := by decide +kernel
theorem dMd_size_0 : decode cMd_size 0 = .ok (.iconst 3, 1) := by decide +kernel
theorem dMd_size_1 : decode cMd_size 1 = .ok (.aload_n 0, 1) := by decide +kernel
theorem dMd_size_2 : decode cMd_size 2 = .ok (.getfield 39, 3) := by decide +kernel
theorem dMd_size_5 : decode cMd_size 5 = .ok (.iload_n 1, 1) := by decide +kernel
theorem dMd_size_6 : decode cMd_size 6 = .ok (.iaload, 1) := by decide +kernel
theorem dMd_size_7 : decode cMd_size 7 = .ok (.iadd, 1) := by decide +kernel
theorem dMd_size_8 : decode cMd_size 8 = .ok (.aload_n 0, 1) := by decide +kernel
theorem dMd_size_9 : decode cMd_size 9 = .ok (.getfield 42, 3) := by decide +kernel
theorem dMd_size_12 : decode cMd_size 12 = .ok (.iload_n 1, 1) := by decide +kernel
theorem dMd_size_13 : decode cMd_size 13 = .ok (.iaload, 1) := by decide +kernel
theorem dMd_size_14 : decode cMd_size 14 = .ok (.iadd, 1) := by decide +kernel
theorem dMd_size_15 : decode cMd_size 15 = .ok (.ireturn, 1) := by decide +kernel
theorem dMd_findFields_0 : decode cMd_findFields 0 = .ok (.iconst 0, 1) := by decide +kernel
theorem dMd_findFields_1 : decode cMd_findFields 1 = .ok (.istore_n 2, 1) := by decide +kernel
theorem dMd_findFields_2 : decode cMd_findFields 2 = .ok (.iload_n 2, 1) := by decide +kernel
theorem dMd_findFields_3 : decode cMd_findFields 3 = .ok (.aload_n 0, 1) := by decide +kernel
theorem dMd_findFields_4 : decode cMd_findFields 4 = .ok (.getfield 39, 3) := by decide +kernel
theorem dMd_findFields_7 : decode cMd_findFields 7 = .ok (.iload_n 1, 1) := by decide +kernel
theorem dMd_findFields_8 : decode cMd_findFields 8 = .ok (.iaload, 1) := by decide +kernel
theorem dMd_findFields_9 : decode cMd_findFields 9 = .ok (.if_icmp .ge 26, 3) := by decide +kernel
theorem dMd_findFields_12 : decode cMd_findFields 12 = .ok (.aload_n 0, 1) := by decide +kernel
theorem dMd_findFields_13 : decode cMd_findFields 13 = .ok (.aload_n 0, 1) := by decide +kernel
theorem dMd_findFields_14 : decode cMd_findFields 14 = .ok (.getfield 48, 3) := by decide +kernel
theorem dMd_findFields_17 : decode cMd_findFields 17 = .ok (.aload_n 0, 1) := by decide +kernel
theorem dMd_findFields_18 : decode cMd_findFields 18 = .ok (.getfield 45, 3) := by decide +kernel
theorem dMd_findFields_21 : decode cMd_findFields 21 = .ok (.iload_n 1, 1) := by decide +kernel
theorem dMd_findFields_22 : decode cMd_findFields 22 = .ok (.iaload, 1) := by decide +kernel
theorem dMd_findFields_23 : decode cMd_findFields 23 = .ok (.iload_n 2, 1) := by decide +kernel
theorem dMd_findFields_24 : decode cMd_findFields 24 = .ok (.iadd, 1) := by decide +kernel
theorem dMd_findFields_25 : decode cMd_findFields 25 = .ok (.iaload, 1) := by decide +kernel
theorem dMd_findFields_26 : decode cMd_findFields 26 = .ok (.invokevirtual 116, 3) := by decide +kernel
theorem dMd_findFields_29 : decode cMd_findFields 29 = .ok (.iinc 2 1, 3) := by decide +kernel
theorem dMd_findFields_32 : decode cMd_findFields 32 = .ok (.goto (-30), 3) := by decide +kernel
theorem dMd_findFields_35 : decode cMd_findFields 35 = .ok (.return_, 1) := by decide +kernel
theorem dMd_tidy_0 : decode cMd_tidy 0 = .ok (.iconst 0, 1) := by decide +kernel
theorem dMd_tidy_1 : decode cMd_tidy 1 = .ok (.istore_n 1, 1) := by decide +kernel
theorem dMd_tidy_2 : decode cMd_tidy 2 = .ok (.iconst 0, 1) := by decide +kernel
theorem dMd_tidy_3 : decode cMd_tidy 3 = .ok (.istore_n 2, 1) := by decide +kernel
theorem dMd_tidy_4 : decode cMd_tidy 4 = .ok (.iload_n 2, 1) := by decide +kernel
theorem dMd_tidy_5 : decode cMd_tidy 5 = .ok (.sipush 3600, 3) := by decide +kernel
theorem dMd_tidy_8 : decode cMd_tidy 8 = .ok (.if_icmp .ge 77, 3) := by decide +kernel
theorem dMd_tidy_11 : decode cMd_tidy 11 = .ok (.aload_n 0, 1) := by decide +kernel
theorem dMd_tidy_12 : decode cMd_tidy 12 = .ok (.getfield 26, 3) := by decide +kernel
theorem dMd_tidy_15 : decode cMd_tidy 15 = .ok (.iload_n 2, 1) := by decide +kernel
theorem dMd_tidy_16 : decode cMd_tidy 16 = .ok (.baload, 1) := by decide +kernel
theorem dMd_tidy_17 : decode cMd_tidy 17 = .ok (.ifCond .eq 62, 3) := by decide +kernel
theorem dMd_tidy_20 : decode cMd_tidy 20 = .ok (.aload_n 0, 1) := by decide +kernel
theorem dMd_tidy_21 : decode cMd_tidy 21 = .ok (.getfield 45, 3) := by decide +kernel
theorem dMd_tidy_24 : decode cMd_tidy 24 = .ok (.iload_n 2, 1) := by decide +kernel
theorem dMd_tidy_25 : decode cMd_tidy 25 = .ok (.iaload, 1) := by decide +kernel
theorem dMd_tidy_26 : decode cMd_tidy 26 = .ok (.istore_n 3, 1) := by decide +kernel
theorem dMd_tidy_27 : decode cMd_tidy 27 = .ok (.aload_n 0, 1) := by decide +kernel
theorem dMd_tidy_28 : decode cMd_tidy 28 = .ok (.getfield 45, 3) := by decide +kernel
theorem dMd_tidy_31 : decode cMd_tidy 31 = .ok (.iload_n 2, 1) := by decide +kernel
theorem dMd_tidy_32 : decode cMd_tidy 32 = .ok (.iload_n 1, 1) := by decide +kernel
theorem dMd_tidy_33 : decode cMd_tidy 33 = .ok (.iastore, 1) := by decide +kernel
theorem dMd_tidy_34 : decode cMd_tidy 34 = .ok (.iconst 0, 1) := by decide +kernel
theorem dMd_tidy_35 : decode cMd_tidy 35 = .ok (.istore 4, 2) := by decide +kernel
theorem dMd_tidy_37 : decode cMd_tidy 37 = .ok (.iload 4, 2) := by decide +kernel
theorem dMd_tidy_39 : decode cMd_tidy 39 = .ok (.aload_n 0, 1) := by decide +kernel
theorem dMd_tidy_40 : decode cMd_tidy 40 = .ok (.getfield 39, 3) := by decide +kernel
theorem dMd_tidy_43 : decode cMd_tidy 43 = .ok (.iload_n 2, 1) := by decide +kernel
theorem dMd_tidy_44 : decode cMd_tidy 44 = .ok (.iaload, 1) := by decide +kernel
theorem dMd_tidy_45 : decode cMd_tidy 45 = .ok (.aload_n 0, 1) := by decide +kernel
theorem dMd_tidy_46 : decode cMd_tidy 46 = .ok (.getfield 42, 3) := by decide +kernel
theorem dMd_tidy_49 : decode cMd_tidy 49 = .ok (.iload_n 2, 1) := by decide +kernel
theorem dMd_tidy_50 : decode cMd_tidy 50 = .ok (.iaload, 1) := by decide +kernel
theorem dMd_tidy_51 : decode cMd_tidy 51 = .ok (.iadd, 1) := by decide +kernel
theorem dMd_tidy_52 : decode cMd_tidy 52 = .ok (.if_icmp .ge 27, 3) := by decide +kernel
theorem dMd_tidy_55 : decode cMd_tidy 55 = .ok (.aload_n 0, 1) := by decide +kernel
theorem dMd_tidy_56 : decode cMd_tidy 56 = .ok (.getfield 51, 3) := by decide +kernel
theorem dMd_tidy_59 : decode cMd_tidy 59 = .ok (.iload_n 1, 1) := by decide +kernel
theorem dMd_tidy_60 : decode cMd_tidy 60 = .ok (.aload_n 0, 1) := by decide +kernel
theorem dMd_tidy_61 : decode cMd_tidy 61 = .ok (.getfield 48, 3) := by decide +kernel
theorem dMd_tidy_64 : decode cMd_tidy 64 = .ok (.iload_n 3, 1) := by decide +kernel
theorem dMd_tidy_65 : decode cMd_tidy 65 = .ok (.iload 4, 2) := by decide +kernel
theorem dMd_tidy_67 : decode cMd_tidy 67 = .ok (.iadd, 1) := by decide +kernel
theorem dMd_tidy_68 : decode cMd_tidy 68 = .ok (.iaload, 1) := by decide +kernel
theorem dMd_tidy_69 : decode cMd_tidy 69 = .ok (.iastore, 1) := by decide +kernel
theorem dMd_tidy_70 : decode cMd_tidy 70 = .ok (.iinc 1 1, 3) := by decide +kernel
theorem dMd_tidy_73 : decode cMd_tidy 73 = .ok (.iinc 4 1, 3) := by decide +kernel
theorem dMd_tidy_76 : decode cMd_tidy 76 = .ok (.goto (-39), 3) := by decide +kernel
theorem dMd_tidy_79 : decode cMd_tidy 79 = .ok (.iinc 2 1, 3) := by decide +kernel
theorem dMd_tidy_82 : decode cMd_tidy 82 = .ok (.goto (-78), 3) := by decide +kernel
theorem dMd_tidy_85 : decode cMd_tidy 85 = .ok (.iconst 0, 1) := by decide +kernel
theorem dMd_tidy_86 : decode cMd_tidy 86 = .ok (.istore_n 2, 1) := by decide +kernel
theorem dMd_tidy_87 : decode cMd_tidy 87 = .ok (.iload_n 2, 1) := by decide +kernel
theorem dMd_tidy_88 : decode cMd_tidy 88 = .ok (.iload_n 1, 1) := by decide +kernel
theorem dMd_tidy_89 : decode cMd_tidy 89 = .ok (.if_icmp .ge 21, 3) := by decide +kernel
theorem dMd_tidy_92 : decode cMd_tidy 92 = .ok (.aload_n 0, 1) := by decide +kernel
theorem dMd_tidy_93 : decode cMd_tidy 93 = .ok (.getfield 48, 3) := by decide +kernel
theorem dMd_tidy_96 : decode cMd_tidy 96 = .ok (.iload_n 2, 1) := by decide +kernel
theorem dMd_tidy_97 : decode cMd_tidy 97 = .ok (.aload_n 0, 1) := by decide +kernel
theorem dMd_tidy_98 : decode cMd_tidy 98 = .ok (.getfield 51, 3) := by decide +kernel
theorem dMd_tidy_101 : decode cMd_tidy 101 = .ok (.iload_n 2, 1) := by decide +kernel
theorem dMd_tidy_102 : decode cMd_tidy 102 = .ok (.iaload, 1) := by decide +kernel
theorem dMd_tidy_103 : decode cMd_tidy 103 = .ok (.iastore, 1) := by decide +kernel
theorem dMd_tidy_104 : decode cMd_tidy 104 = .ok (.iinc 2 1, 3) := by decide +kernel
theorem dMd_tidy_107 : decode cMd_tidy 107 = .ok (.goto (-20), 3) := by decide +kernel
theorem dMd_tidy_110 : decode cMd_tidy 110 = .ok (.aload_n 0, 1) := by decide +kernel
theorem dMd_tidy_111 : decode cMd_tidy 111 = .ok (.iload_n 1, 1) := by decide +kernel
theorem dMd_tidy_112 : decode cMd_tidy 112 = .ok (.putfield 73, 3) := by decide +kernel
theorem dMd_tidy_115 : decode cMd_tidy 115 = .ok (.return_, 1) := by decide +kernel
theorem dMd_about_0 : decode cMd_about 0 = .ok (.aload_n 0, 1) := by decide +kernel
theorem dMd_about_1 : decode cMd_about 1 = .ok (.iload_n 1, 1) := by decide +kernel
theorem dMd_about_2 : decode cMd_about 2 = .ok (.invokevirtual 96, 3) := by decide +kernel
theorem dMd_about_5 : decode cMd_about 5 = .ok (.istore_n 3, 1) := by decide +kernel
theorem dMd_about_6 : decode cMd_about 6 = .ok (.aload_n 0, 1) := by decide +kernel
theorem dMd_about_7 : decode cMd_about 7 = .ok (.iload_n 3, 1) := by decide +kernel
theorem dMd_about_8 : decode cMd_about 8 = .ok (.ifCond .lt 7, 3) := by decide +kernel
theorem dMd_about_11 : decode cMd_about 11 = .ok (.iconst 1, 1) := by decide +kernel
theorem dMd_about_12 : decode cMd_about 12 = .ok (.goto 4, 3) := by decide +kernel
theorem dMd_about_15 : decode cMd_about 15 = .ok (.iconst 0, 1) := by decide +kernel
theorem dMd_about_16 : decode cMd_about 16 = .ok (.iload_n 2, 1) := by decide +kernel
theorem dMd_about_17 : decode cMd_about 17 = .ok (.ifCond .lt 12, 3) := by decide +kernel
theorem dMd_about_20 : decode cMd_about 20 = .ok (.iload_n 2, 1) := by decide +kernel
theorem dMd_about_21 : decode cMd_about 21 = .ok (.iconst 3, 1) := by decide +kernel
theorem dMd_about_22 : decode cMd_about 22 = .ok (.if_icmp .gt 7, 3) := by decide +kernel
theorem dMd_about_25 : decode cMd_about 25 = .ok (.iconst 1, 1) := by decide +kernel
theorem dMd_about_26 : decode cMd_about 26 = .ok (.goto 4, 3) := by decide +kernel
theorem dMd_about_29 : decode cMd_about 29 = .ok (.iconst 0, 1) := by decide +kernel
theorem dMd_about_30 : decode cMd_about 30 = .ok (.invokevirtual 88, 3) := by decide +kernel
theorem dMd_about_33 : decode cMd_about 33 = .ok (.ifCond .ne 5, 3) := by decide +kernel
theorem dMd_about_36 : decode cMd_about 36 = .ok (.iconst 0, 1) := by decide +kernel
theorem dMd_about_37 : decode cMd_about 37 = .ok (.ireturn, 1) := by decide +kernel
theorem dMd_about_38 : decode cMd_about 38 = .ok (.iload_n 2, 1) := by decide +kernel
theorem dMd_about_39 : decode cMd_about 39 = .ok (.ifCond .ne 12, 3) := by decide +kernel
theorem dMd_about_42 : decode cMd_about 42 = .ok (.aload_n 0, 1) := by decide +kernel
theorem dMd_about_43 : decode cMd_about 43 = .ok (.getfield 36, 3) := by decide +kernel
theorem dMd_about_46 : decode cMd_about 46 = .ok (.iload_n 3, 1) := by decide +kernel
theorem dMd_about_47 : decode cMd_about 47 = .ok (.iaload, 1) := by decide +kernel
theorem dMd_about_48 : decode cMd_about 48 = .ok (.goto 37, 3) := by decide +kernel
theorem dMd_about_51 : decode cMd_about 51 = .ok (.iload_n 2, 1) := by decide +kernel
theorem dMd_about_52 : decode cMd_about 52 = .ok (.iconst 1, 1) := by decide +kernel
theorem dMd_about_53 : decode cMd_about 53 = .ok (.if_icmp .ne 12, 3) := by decide +kernel
theorem dMd_about_56 : decode cMd_about 56 = .ok (.aload_n 0, 1) := by decide +kernel
theorem dMd_about_57 : decode cMd_about 57 = .ok (.getfield 39, 3) := by decide +kernel
theorem dMd_about_60 : decode cMd_about 60 = .ok (.iload_n 3, 1) := by decide +kernel
theorem dMd_about_61 : decode cMd_about 61 = .ok (.iaload, 1) := by decide +kernel
theorem dMd_about_62 : decode cMd_about 62 = .ok (.goto 23, 3) := by decide +kernel
theorem dMd_about_65 : decode cMd_about 65 = .ok (.iload_n 2, 1) := by decide +kernel
theorem dMd_about_66 : decode cMd_about 66 = .ok (.iconst 2, 1) := by decide +kernel
theorem dMd_about_67 : decode cMd_about 67 = .ok (.if_icmp .ne 12, 3) := by decide +kernel
theorem dMd_about_70 : decode cMd_about 70 = .ok (.aload_n 0, 1) := by decide +kernel
theorem dMd_about_71 : decode cMd_about 71 = .ok (.getfield 42, 3) := by decide +kernel
theorem dMd_about_74 : decode cMd_about 74 = .ok (.iload_n 3, 1) := by decide +kernel
theorem dMd_about_75 : decode cMd_about 75 = .ok (.iaload, 1) := by decide +kernel
theorem dMd_about_76 : decode cMd_about 76 = .ok (.goto 9, 3) := by decide +kernel
theorem dMd_about_79 : decode cMd_about 79 = .ok (.aload_n 0, 1) := by decide +kernel
theorem dMd_about_80 : decode cMd_about 80 = .ok (.getfield 30, 3) := by decide +kernel
theorem dMd_about_83 : decode cMd_about 83 = .ok (.iload_n 3, 1) := by decide +kernel
theorem dMd_about_84 : decode cMd_about 84 = .ok (.iaload, 1) := by decide +kernel
theorem dMd_about_85 : decode cMd_about 85 = .ok (.ireturn, 1) := by decide +kernel
theorem dMd_next_0 : decode cMd_next 0 = .ok (.aload_n 0, 1) := by decide +kernel
theorem dMd_next_1 : decode cMd_next 1 = .ok (.iload_n 1, 1) := by decide +kernel
theorem dMd_next_2 : decode cMd_next 2 = .ok (.ifCond .eq 11, 3) := by decide +kernel
theorem dMd_next_5 : decode cMd_next 5 = .ok (.aload_n 0, 1) := by decide +kernel
theorem dMd_next_6 : decode cMd_next 6 = .ok (.iload_n 1, 1) := by decide +kernel
theorem dMd_next_7 : decode cMd_next 7 = .ok (.invokevirtual 96, 3) := by decide +kernel
theorem dMd_next_10 : decode cMd_next 10 = .ok (.ifCond .lt 7, 3) := by decide +kernel
theorem dMd_next_13 : decode cMd_next 13 = .ok (.iconst 1, 1) := by decide +kernel
theorem dMd_next_14 : decode cMd_next 14 = .ok (.goto 4, 3) := by decide +kernel
theorem dMd_next_17 : decode cMd_next 17 = .ok (.iconst 0, 1) := by decide +kernel
theorem dMd_next_18 : decode cMd_next 18 = .ok (.iconst 1, 1) := by decide +kernel
theorem dMd_next_19 : decode cMd_next 19 = .ok (.invokevirtual 88, 3) := by decide +kernel
theorem dMd_next_22 : decode cMd_next 22 = .ok (.ifCond .ne 5, 3) := by decide +kernel
theorem dMd_next_25 : decode cMd_next 25 = .ok (.iconst 0, 1) := by decide +kernel
theorem dMd_next_26 : decode cMd_next 26 = .ok (.ireturn, 1) := by decide +kernel
theorem dMd_next_27 : decode cMd_next 27 = .ok (.iconst 0, 1) := by decide +kernel
theorem dMd_next_28 : decode cMd_next 28 = .ok (.istore_n 2, 1) := by decide +kernel
theorem dMd_next_29 : decode cMd_next 29 = .ok (.iconst 0, 1) := by decide +kernel
theorem dMd_next_30 : decode cMd_next 30 = .ok (.istore_n 3, 1) := by decide +kernel
theorem dMd_next_31 : decode cMd_next 31 = .ok (.iload_n 3, 1) := by decide +kernel
theorem dMd_next_32 : decode cMd_next 32 = .ok (.sipush 3600, 3) := by decide +kernel
theorem dMd_next_35 : decode cMd_next 35 = .ok (.if_icmp .ge 65, 3) := by decide +kernel
theorem dMd_next_38 : decode cMd_next 38 = .ok (.aload_n 0, 1) := by decide +kernel
theorem dMd_next_39 : decode cMd_next 39 = .ok (.getfield 26, 3) := by decide +kernel
theorem dMd_next_42 : decode cMd_next 42 = .ok (.iload_n 3, 1) := by decide +kernel
theorem dMd_next_43 : decode cMd_next 43 = .ok (.baload, 1) := by decide +kernel
theorem dMd_next_44 : decode cMd_next 44 = .ok (.ifCond .eq 17, 3) := by decide +kernel
theorem dMd_next_47 : decode cMd_next 47 = .ok (.aload_n 0, 1) := by decide +kernel
theorem dMd_next_48 : decode cMd_next 48 = .ok (.getfield 33, 3) := by decide +kernel
theorem dMd_next_51 : decode cMd_next 51 = .ok (.iload_n 3, 1) := by decide +kernel
theorem dMd_next_52 : decode cMd_next 52 = .ok (.iaload, 1) := by decide +kernel
theorem dMd_next_53 : decode cMd_next 53 = .ok (.iload_n 1, 1) := by decide +kernel
theorem dMd_next_54 : decode cMd_next 54 = .ok (.if_icmp .le 7, 3) := by decide +kernel
theorem dMd_next_57 : decode cMd_next 57 = .ok (.iconst 1, 1) := by decide +kernel
theorem dMd_next_58 : decode cMd_next 58 = .ok (.goto 4, 3) := by decide +kernel
theorem dMd_next_61 : decode cMd_next 61 = .ok (.iconst 0, 1) := by decide +kernel
theorem dMd_next_62 : decode cMd_next 62 = .ok (.istore 4, 2) := by decide +kernel
theorem dMd_next_64 : decode cMd_next 64 = .ok (.iload 4, 2) := by decide +kernel
theorem dMd_next_66 : decode cMd_next 66 = .ok (.ifCond .eq 26, 3) := by decide +kernel
theorem dMd_next_69 : decode cMd_next 69 = .ok (.iload_n 2, 1) := by decide +kernel
theorem dMd_next_70 : decode cMd_next 70 = .ok (.ifCond .eq 13, 3) := by decide +kernel
theorem dMd_next_73 : decode cMd_next 73 = .ok (.aload_n 0, 1) := by decide +kernel
theorem dMd_next_74 : decode cMd_next 74 = .ok (.getfield 33, 3) := by decide +kernel
theorem dMd_next_77 : decode cMd_next 77 = .ok (.iload_n 3, 1) := by decide +kernel
theorem dMd_next_78 : decode cMd_next 78 = .ok (.iaload, 1) := by decide +kernel
theorem dMd_next_79 : decode cMd_next 79 = .ok (.iload_n 2, 1) := by decide +kernel
theorem dMd_next_80 : decode cMd_next 80 = .ok (.if_icmp .ge 12, 3) := by decide +kernel
theorem dMd_next_83 : decode cMd_next 83 = .ok (.aload_n 0, 1) := by decide +kernel
theorem dMd_next_84 : decode cMd_next 84 = .ok (.getfield 33, 3) := by decide +kernel
theorem dMd_next_87 : decode cMd_next 87 = .ok (.iload_n 3, 1) := by decide +kernel
theorem dMd_next_88 : decode cMd_next 88 = .ok (.iaload, 1) := by decide +kernel
theorem dMd_next_89 : decode cMd_next 89 = .ok (.goto 4, 3) := by decide +kernel
theorem dMd_next_92 : decode cMd_next 92 = .ok (.iload_n 2, 1) := by decide +kernel
theorem dMd_next_93 : decode cMd_next 93 = .ok (.istore_n 2, 1) := by decide +kernel
theorem dMd_next_94 : decode cMd_next 94 = .ok (.iinc 3 1, 3) := by decide +kernel
theorem dMd_next_97 : decode cMd_next 97 = .ok (.goto (-66), 3) := by decide +kernel
theorem dMd_next_100 : decode cMd_next 100 = .ok (.iload_n 2, 1) := by decide +kernel
theorem dMd_next_101 : decode cMd_next 101 = .ok (.ireturn, 1) := by decide +kernel
theorem dMd_count_0 : decode cMd_count 0 = .ok (.aload_n 0, 1) := by decide +kernel
theorem dMd_count_1 : decode cMd_count 1 = .ok (.iload_n 1, 1) := by decide +kernel
theorem dMd_count_2 : decode cMd_count 2 = .ok (.ifCond .lt 13, 3) := by decide +kernel
theorem dMd_count_5 : decode cMd_count 5 = .ok (.iload_n 1, 1) := by decide +kernel
theorem dMd_count_6 : decode cMd_count 6 = .ok (.bipush 9, 2) := by decide +kernel
theorem dMd_count_8 : decode cMd_count 8 = .ok (.if_icmp .gt 7, 3) := by decide +kernel
theorem dMd_count_11 : decode cMd_count 11 = .ok (.iconst 1, 1) := by decide +kernel
theorem dMd_count_12 : decode cMd_count 12 = .ok (.goto 4, 3) := by decide +kernel
theorem dMd_count_15 : decode cMd_count 15 = .ok (.iconst 0, 1) := by decide +kernel
theorem dMd_count_16 : decode cMd_count 16 = .ok (.iconst 1, 1) := by decide +kernel
theorem dMd_count_17 : decode cMd_count 17 = .ok (.invokevirtual 88, 3) := by decide +kernel
theorem dMd_count_20 : decode cMd_count 20 = .ok (.ifCond .ne 5, 3) := by decide +kernel
theorem dMd_count_23 : decode cMd_count 23 = .ok (.iconst 0, 1) := by decide +kernel
theorem dMd_count_24 : decode cMd_count 24 = .ok (.ireturn, 1) := by decide +kernel
theorem dMd_count_25 : decode cMd_count 25 = .ok (.iload_n 1, 1) := by decide +kernel
theorem dMd_count_26 : decode cMd_count 26 = .ok (.tableswitch 134 0 8 #[50, 56, 65, 71, 85, 105, 119, 124, 129], 50) := by decide +kernel
theorem dMd_count_76 : decode cMd_count 76 = .ok (.aload_n 0, 1) := by decide +kernel
theorem dMd_count_77 : decode cMd_count 77 = .ok (.iconst 0, 1) := by decide +kernel
theorem dMd_count_78 : decode cMd_count 78 = .ok (.invokevirtual 126, 3) := by decide +kernel
theorem dMd_count_81 : decode cMd_count 81 = .ok (.ireturn, 1) := by decide +kernel
theorem dMd_count_82 : decode cMd_count 82 = .ok (.aload_n 0, 1) := by decide +kernel
theorem dMd_count_83 : decode cMd_count 83 = .ok (.aload_n 0, 1) := by decide +kernel
theorem dMd_count_84 : decode cMd_count 84 = .ok (.getfield 19, 3) := by decide +kernel
theorem dMd_count_87 : decode cMd_count 87 = .ok (.invokevirtual 126, 3) := by decide +kernel
theorem dMd_count_90 : decode cMd_count 90 = .ok (.ireturn, 1) := by decide +kernel
theorem dMd_count_91 : decode cMd_count 91 = .ok (.aload_n 0, 1) := by decide +kernel
theorem dMd_count_92 : decode cMd_count 92 = .ok (.iconst 3, 1) := by decide +kernel
theorem dMd_count_93 : decode cMd_count 93 = .ok (.invokevirtual 126, 3) := by decide +kernel
theorem dMd_count_96 : decode cMd_count 96 = .ok (.ireturn, 1) := by decide +kernel
theorem dMd_count_97 : decode cMd_count 97 = .ok (.aload_n 0, 1) := by decide +kernel
theorem dMd_count_98 : decode cMd_count 98 = .ok (.getfield 16, 3) := by decide +kernel
theorem dMd_count_101 : decode cMd_count 101 = .ok (.iconst 0, 1) := by decide +kernel
theorem dMd_count_102 : decode cMd_count 102 = .ok (.iaload, 1) := by decide +kernel
theorem dMd_count_103 : decode cMd_count 103 = .ok (.aload_n 0, 1) := by decide +kernel
theorem dMd_count_104 : decode cMd_count 104 = .ok (.getfield 7, 3) := by decide +kernel
theorem dMd_count_107 : decode cMd_count 107 = .ok (.iconst 0, 1) := by decide +kernel
theorem dMd_count_108 : decode cMd_count 108 = .ok (.iaload, 1) := by decide +kernel
theorem dMd_count_109 : decode cMd_count 109 = .ok (.isub, 1) := by decide +kernel
theorem dMd_count_110 : decode cMd_count 110 = .ok (.ireturn, 1) := by decide +kernel
theorem dMd_count_111 : decode cMd_count 111 = .ok (.aload_n 0, 1) := by decide +kernel
theorem dMd_count_112 : decode cMd_count 112 = .ok (.getfield 16, 3) := by decide +kernel
theorem dMd_count_115 : decode cMd_count 115 = .ok (.aload_n 0, 1) := by decide +kernel
theorem dMd_count_116 : decode cMd_count 116 = .ok (.getfield 19, 3) := by decide +kernel
theorem dMd_count_119 : decode cMd_count 119 = .ok (.iaload, 1) := by decide +kernel
theorem dMd_count_120 : decode cMd_count 120 = .ok (.aload_n 0, 1) := by decide +kernel
theorem dMd_count_121 : decode cMd_count 121 = .ok (.getfield 7, 3) := by decide +kernel
theorem dMd_count_124 : decode cMd_count 124 = .ok (.aload_n 0, 1) := by decide +kernel
theorem dMd_count_125 : decode cMd_count 125 = .ok (.getfield 19, 3) := by decide +kernel
theorem dMd_count_128 : decode cMd_count 128 = .ok (.iaload, 1) := by decide +kernel
theorem dMd_count_129 : decode cMd_count 129 = .ok (.isub, 1) := by decide +kernel
theorem dMd_count_130 : decode cMd_count 130 = .ok (.ireturn, 1) := by decide +kernel
theorem dMd_count_131 : decode cMd_count 131 = .ok (.aload_n 0, 1) := by decide +kernel
theorem dMd_count_132 : decode cMd_count 132 = .ok (.getfield 16, 3) := by decide +kernel
theorem dMd_count_135 : decode cMd_count 135 = .ok (.iconst 3, 1) := by decide +kernel
theorem dMd_count_136 : decode cMd_count 136 = .ok (.iaload, 1) := by decide +kernel
theorem dMd_count_137 : decode cMd_count 137 = .ok (.aload_n 0, 1) := by decide +kernel
theorem dMd_count_138 : decode cMd_count 138 = .ok (.getfield 7, 3) := by decide +kernel
theorem dMd_count_141 : decode cMd_count 141 = .ok (.iconst 3, 1) := by decide +kernel
theorem dMd_count_142 : decode cMd_count 142 = .ok (.iaload, 1) := by decide +kernel
theorem dMd_count_143 : decode cMd_count 143 = .ok (.isub, 1) := by decide +kernel
theorem dMd_count_144 : decode cMd_count 144 = .ok (.ireturn, 1) := by decide +kernel
theorem dMd_count_145 : decode cMd_count 145 = .ok (.aload_n 0, 1) := by decide +kernel
theorem dMd_count_146 : decode cMd_count 146 = .ok (.getfield 79, 3) := by decide +kernel
theorem dMd_count_149 : decode cMd_count 149 = .ok (.ireturn, 1) := by decide +kernel
theorem dMd_count_150 : decode cMd_count 150 = .ok (.aload_n 0, 1) := by decide +kernel
theorem dMd_count_151 : decode cMd_count 151 = .ok (.getfield 82, 3) := by decide +kernel
theorem dMd_count_154 : decode cMd_count 154 = .ok (.ireturn, 1) := by decide +kernel
theorem dMd_count_155 : decode cMd_count 155 = .ok (.aload_n 0, 1) := by decide +kernel
theorem dMd_count_156 : decode cMd_count 156 = .ok (.getfield 85, 3) := by decide +kernel
theorem dMd_count_159 : decode cMd_count 159 = .ok (.ireturn, 1) := by decide +kernel
theorem dMd_count_160 : decode cMd_count 160 = .ok (.aload_n 0, 1) := by decide +kernel
theorem dMd_count_161 : decode cMd_count 161 = .ok (.getfield 19, 3) := by decide +kernel
theorem dMd_count_164 : decode cMd_count 164 = .ok (.iconst 1, 1) := by decide +kernel
theorem dMd_count_165 : decode cMd_count 165 = .ok (.isub, 1) := by decide +kernel
theorem dMd_count_166 : decode cMd_count 166 = .ok (.ireturn, 1) := by decide +kernel
theorem dMd_many_0 : decode cMd_many 0 = .ok (.iconst 0, 1) := by decide +kernel
theorem dMd_many_1 : decode cMd_many 1 = .ok (.istore_n 2, 1) := by decide +kernel
theorem dMd_many_2 : decode cMd_many 2 = .ok (.iconst 0, 1) := by decide +kernel
theorem dMd_many_3 : decode cMd_many 3 = .ok (.istore_n 3, 1) := by decide +kernel
theorem dMd_many_4 : decode cMd_many 4 = .ok (.iload_n 3, 1) := by decide +kernel
theorem dMd_many_5 : decode cMd_many 5 = .ok (.sipush 3600, 3) := by decide +kernel
theorem dMd_many_8 : decode cMd_many 8 = .ok (.if_icmp .ge 36, 3) := by decide +kernel
theorem dMd_many_11 : decode cMd_many 11 = .ok (.aload_n 0, 1) := by decide +kernel
theorem dMd_many_12 : decode cMd_many 12 = .ok (.getfield 26, 3) := by decide +kernel
theorem dMd_many_15 : decode cMd_many 15 = .ok (.iload_n 3, 1) := by decide +kernel
theorem dMd_many_16 : decode cMd_many 16 = .ok (.baload, 1) := by decide +kernel
theorem dMd_many_17 : decode cMd_many 17 = .ok (.ifCond .eq 19, 3) := by decide +kernel
theorem dMd_many_20 : decode cMd_many 20 = .ok (.aload_n 0, 1) := by decide +kernel
theorem dMd_many_21 : decode cMd_many 21 = .ok (.getfield 30, 3) := by decide +kernel
theorem dMd_many_24 : decode cMd_many 24 = .ok (.iload_n 3, 1) := by decide +kernel
theorem dMd_many_25 : decode cMd_many 25 = .ok (.iaload, 1) := by decide +kernel
theorem dMd_many_26 : decode cMd_many 26 = .ok (.iload_n 1, 1) := by decide +kernel
theorem dMd_many_27 : decode cMd_many 27 = .ok (.if_icmp .ne 9, 3) := by decide +kernel
theorem dMd_many_30 : decode cMd_many 30 = .ok (.iload_n 2, 1) := by decide +kernel
theorem dMd_many_31 : decode cMd_many 31 = .ok (.iconst 1, 1) := by decide +kernel
theorem dMd_many_32 : decode cMd_many 32 = .ok (.iadd, 1) := by decide +kernel
theorem dMd_many_33 : decode cMd_many 33 = .ok (.goto 4, 3) := by decide +kernel
theorem dMd_many_36 : decode cMd_many 36 = .ok (.iload_n 2, 1) := by decide +kernel
theorem dMd_many_37 : decode cMd_many 37 = .ok (.istore_n 2, 1) := by decide +kernel
theorem dMd_many_38 : decode cMd_many 38 = .ok (.iinc 3 1, 3) := by decide +kernel
theorem dMd_many_41 : decode cMd_many 41 = .ok (.goto (-37), 3) := by decide +kernel
theorem dMd_many_44 : decode cMd_many 44 = .ok (.iload_n 2, 1) := by decide +kernel
theorem dMd_many_45 : decode cMd_many 45 = .ok (.ireturn, 1) := by decide +kernel
end
section
theorem dLw_space_0 : decode cLw_space 0 = .ok (.aload 4, 2) := by decide +kernel
theorem dLw_space_2 : decode cLw_space 2 = .ok (.iconst 0, 1) := by decide +kernel
theorem dLw_space_3 : decode cLw_space 3 = .ok (.aload_n 0, 1) := by decide +kernel
theorem dLw_space_4 : decode cLw_space 4 = .ok (.iload_n 1, 1) := by decide +kernel
theorem dLw_space_5 : decode cLw_space 5 = .ok (.iload_n 2, 1) := by decide +kernel
theorem dLw_space_6 : decode cLw_space 6 = .ok (.iload_n 3, 1) := by decide +kernel
theorem dLw_space_7 : decode cLw_space 7 = .ok (.invokevirtual 7, 3) := by decide +kernel
theorem dLw_space_10 : decode cLw_space 10 = .ok (.i2l, 1) := by decide +kernel
theorem dLw_space_11 : decode cLw_space 11 = .ok (.lastore, 1) := by decide +kernel
theorem dLw_space_12 : decode cLw_space 12 = .ok (.goto 7, 3) := by decide +kernel
theorem dLw_space_15 : decode cLw_space 15 = .ok (.astore 5, 2) := by decide +kernel
theorem dLw_space_17 : decode cLw_space 17 = .ok (.iconst 1, 1) := by decide +kernel
theorem dLw_space_18 : decode cLw_space 18 = .ok (.ireturn, 1) := by decide +kernel
theorem dLw_space_19 : decode cLw_space 19 = .ok (.iconst 0, 1) := by decide +kernel
theorem dLw_space_20 : decode cLw_space 20 = .ok (.ireturn, 1) := by decide +kernel
theorem dLw_limit_0 : decode cLw_limit 0 = .ok (.aload_n 2, 1) := by decide +kernel
theorem dLw_limit_1 : decode cLw_limit 1 = .ok (.iconst 0, 1) := by decide +kernel
theorem dLw_limit_2 : decode cLw_limit 2 = .ok (.aload_n 0, 1) := by decide +kernel
theorem dLw_limit_3 : decode cLw_limit 3 = .ok (.iload_n 1, 1) := by decide +kernel
theorem dLw_limit_4 : decode cLw_limit 4 = .ok (.invokevirtual 15, 3) := by decide +kernel
theorem dLw_limit_7 : decode cLw_limit 7 = .ok (.i2l, 1) := by decide +kernel
theorem dLw_limit_8 : decode cLw_limit 8 = .ok (.lastore, 1) := by decide +kernel
theorem dLw_limit_9 : decode cLw_limit 9 = .ok (.goto 6, 3) := by decide +kernel
theorem dLw_limit_12 : decode cLw_limit 12 = .ok (.astore_n 3, 1) := by decide +kernel
theorem dLw_limit_13 : decode cLw_limit 13 = .ok (.iconst 1, 1) := by decide +kernel
theorem dLw_limit_14 : decode cLw_limit 14 = .ok (.ireturn, 1) := by decide +kernel
theorem dLw_limit_15 : decode cLw_limit 15 = .ok (.iconst 0, 1) := by decide +kernel
theorem dLw_limit_16 : decode cLw_limit 16 = .ok (.ireturn, 1) := by decide +kernel
theorem dLw_make_0 : decode cLw_make 0 = .ok (.aload_n 3, 1) := by decide +kernel
theorem dLw_make_1 : decode cLw_make 1 = .ok (.iconst 0, 1) := by decide +kernel
theorem dLw_make_2 : decode cLw_make 2 = .ok (.aload_n 0, 1) := by decide +kernel
theorem dLw_make_3 : decode cLw_make 3 = .ok (.iload_n 1, 1) := by decide +kernel
theorem dLw_make_4 : decode cLw_make 4 = .ok (.iload_n 2, 1) := by decide +kernel
theorem dLw_make_5 : decode cLw_make 5 = .ok (.invokevirtual 19, 3) := by decide +kernel
theorem dLw_make_8 : decode cLw_make 8 = .ok (.i2l, 1) := by decide +kernel
theorem dLw_make_9 : decode cLw_make 9 = .ok (.lastore, 1) := by decide +kernel
theorem dLw_make_10 : decode cLw_make 10 = .ok (.goto 7, 3) := by decide +kernel
theorem dLw_make_13 : decode cLw_make 13 = .ok (.astore 4, 2) := by decide +kernel
theorem dLw_make_15 : decode cLw_make 15 = .ok (.iconst 1, 1) := by decide +kernel
theorem dLw_make_16 : decode cLw_make 16 = .ok (.ireturn, 1) := by decide +kernel
theorem dLw_make_17 : decode cLw_make 17 = .ok (.iconst 0, 1) := by decide +kernel
theorem dLw_make_18 : decode cLw_make 18 = .ok (.ireturn, 1) := by decide +kernel
theorem dLw_set_0 : decode cLw_set 0 = .ok (.aload 4, 2) := by decide +kernel
theorem dLw_set_2 : decode cLw_set 2 = .ok (.iconst 0, 1) := by decide +kernel
theorem dLw_set_3 : decode cLw_set 3 = .ok (.aload_n 0, 1) := by decide +kernel
theorem dLw_set_4 : decode cLw_set 4 = .ok (.iload_n 1, 1) := by decide +kernel
theorem dLw_set_5 : decode cLw_set 5 = .ok (.iload_n 2, 1) := by decide +kernel
theorem dLw_set_6 : decode cLw_set 6 = .ok (.iload_n 3, 1) := by decide +kernel
theorem dLw_set_7 : decode cLw_set 7 = .ok (.invokevirtual 23, 3) := by decide +kernel
theorem dLw_set_10 : decode cLw_set 10 = .ok (.i2l, 1) := by decide +kernel
theorem dLw_set_11 : decode cLw_set 11 = .ok (.lastore, 1) := by decide +kernel
theorem dLw_set_12 : decode cLw_set 12 = .ok (.goto 7, 3) := by decide +kernel
theorem dLw_set_15 : decode cLw_set 15 = .ok (.astore 5, 2) := by decide +kernel
theorem dLw_set_17 : decode cLw_set 17 = .ok (.iconst 1, 1) := by decide +kernel
theorem dLw_set_18 : decode cLw_set 18 = .ok (.ireturn, 1) := by decide +kernel
theorem dLw_set_19 : decode cLw_set 19 = .ok (.iconst 0, 1) := by decide +kernel
theorem dLw_set_20 : decode cLw_set 20 = .ok (.ireturn, 1) := by decide +kernel
theorem dLw_get_0 : decode cLw_get 0 = .ok (.aload_n 3, 1) := by decide +kernel
theorem dLw_get_1 : decode cLw_get 1 = .ok (.iconst 0, 1) := by decide +kernel
theorem dLw_get_2 : decode cLw_get 2 = .ok (.aload_n 0, 1) := by decide +kernel
theorem dLw_get_3 : decode cLw_get 3 = .ok (.iload_n 1, 1) := by decide +kernel
theorem dLw_get_4 : decode cLw_get 4 = .ok (.iload_n 2, 1) := by decide +kernel
theorem dLw_get_5 : decode cLw_get 5 = .ok (.invokevirtual 28, 3) := by decide +kernel
theorem dLw_get_8 : decode cLw_get 8 = .ok (.i2l, 1) := by decide +kernel
theorem dLw_get_9 : decode cLw_get 9 = .ok (.lastore, 1) := by decide +kernel
theorem dLw_get_10 : decode cLw_get 10 = .ok (.goto 7, 3) := by decide +kernel
theorem dLw_get_13 : decode cLw_get 13 = .ok (.astore 4, 2) := by decide +kernel
theorem dLw_get_15 : decode cLw_get 15 = .ok (.iconst 1, 1) := by decide +kernel
theorem dLw_get_16 : decode cLw_get 16 = .ok (.ireturn, 1) := by decide +kernel
theorem dLw_get_17 : decode cLw_get 17 = .ok (.iconst 0, 1) := by decide +kernel
theorem dLw_get_18 : decode cLw_get 18 = .ok (.ireturn, 1) := by decide +kernel
theorem dLw_put_0 : decode cLw_put 0 = .ok (.aload 4, 2) := by decide +kernel
theorem dLw_put_2 : decode cLw_put 2 = .ok (.iconst 0, 1) := by decide +kernel
theorem dLw_put_3 : decode cLw_put 3 = .ok (.aload_n 0, 1) := by decide +kernel
theorem dLw_put_4 : decode cLw_put 4 = .ok (.iload_n 1, 1) := by decide +kernel
theorem dLw_put_5 : decode cLw_put 5 = .ok (.iload_n 2, 1) := by decide +kernel
theorem dLw_put_6 : decode cLw_put 6 = .ok (.iload_n 3, 1) := by decide +kernel
theorem dLw_put_7 : decode cLw_put 7 = .ok (.invokevirtual 31, 3) := by decide +kernel
theorem dLw_put_10 : decode cLw_put 10 = .ok (.i2l, 1) := by decide +kernel
theorem dLw_put_11 : decode cLw_put 11 = .ok (.lastore, 1) := by decide +kernel
theorem dLw_put_12 : decode cLw_put 12 = .ok (.goto 7, 3) := by decide +kernel
theorem dLw_put_15 : decode cLw_put 15 = .ok (.astore 5, 2) := by decide +kernel
theorem dLw_put_17 : decode cLw_put 17 = .ok (.iconst 1, 1) := by decide +kernel
theorem dLw_put_18 : decode cLw_put 18 = .ok (.ireturn, 1) := by decide +kernel
theorem dLw_put_19 : decode cLw_put 19 = .ok (.iconst 0, 1) := by decide +kernel
theorem dLw_put_20 : decode cLw_put 20 = .ok (.ireturn, 1) := by decide +kernel
theorem dLw_word_0 : decode cLw_word 0 = .ok (.aload_n 3, 1) := by decide +kernel
theorem dLw_word_1 : decode cLw_word 1 = .ok (.iconst 0, 1) := by decide +kernel
theorem dLw_word_2 : decode cLw_word 2 = .ok (.aload_n 0, 1) := by decide +kernel
theorem dLw_word_3 : decode cLw_word 3 = .ok (.iload_n 1, 1) := by decide +kernel
theorem dLw_word_4 : decode cLw_word 4 = .ok (.iload_n 2, 1) := by decide +kernel
theorem dLw_word_5 : decode cLw_word 5 = .ok (.invokevirtual 34, 3) := by decide +kernel
theorem dLw_word_8 : decode cLw_word 8 = .ok (.i2l, 1) := by decide +kernel
theorem dLw_word_9 : decode cLw_word 9 = .ok (.lastore, 1) := by decide +kernel
theorem dLw_word_10 : decode cLw_word 10 = .ok (.goto 7, 3) := by decide +kernel
theorem dLw_word_13 : decode cLw_word 13 = .ok (.astore 4, 2) := by decide +kernel
theorem dLw_word_15 : decode cLw_word 15 = .ok (.iconst 1, 1) := by decide +kernel
theorem dLw_word_16 : decode cLw_word 16 = .ok (.ireturn, 1) := by decide +kernel
theorem dLw_word_17 : decode cLw_word 17 = .ok (.iconst 0, 1) := by decide +kernel
theorem dLw_word_18 : decode cLw_word 18 = .ok (.ireturn, 1) := by decide +kernel
theorem dLw_root_0 : decode cLw_root 0 = .ok (.aload_n 3, 1) := by decide +kernel
theorem dLw_root_1 : decode cLw_root 1 = .ok (.iconst 0, 1) := by decide +kernel
theorem dLw_root_2 : decode cLw_root 2 = .ok (.aload_n 0, 1) := by decide +kernel
theorem dLw_root_3 : decode cLw_root 3 = .ok (.iload_n 1, 1) := by decide +kernel
theorem dLw_root_4 : decode cLw_root 4 = .ok (.iload_n 2, 1) := by decide +kernel
theorem dLw_root_5 : decode cLw_root 5 = .ok (.invokevirtual 37, 3) := by decide +kernel
theorem dLw_root_8 : decode cLw_root 8 = .ok (.i2l, 1) := by decide +kernel
theorem dLw_root_9 : decode cLw_root 9 = .ok (.lastore, 1) := by decide +kernel
theorem dLw_root_10 : decode cLw_root 10 = .ok (.goto 7, 3) := by decide +kernel
theorem dLw_root_13 : decode cLw_root 13 = .ok (.astore 4, 2) := by decide +kernel
theorem dLw_root_15 : decode cLw_root 15 = .ok (.iconst 1, 1) := by decide +kernel
theorem dLw_root_16 : decode cLw_root 16 = .ok (.ireturn, 1) := by decide +kernel
theorem dLw_root_17 : decode cLw_root 17 = .ok (.iconst 0, 1) := by decide +kernel
theorem dLw_root_18 : decode cLw_root 18 = .ok (.ireturn, 1) := by decide +kernel
theorem dLw_rooted_0 : decode cLw_rooted 0 = .ok (.aload_n 2, 1) := by decide +kernel
theorem dLw_rooted_1 : decode cLw_rooted 1 = .ok (.iconst 0, 1) := by decide +kernel
theorem dLw_rooted_2 : decode cLw_rooted 2 = .ok (.aload_n 0, 1) := by decide +kernel
theorem dLw_rooted_3 : decode cLw_rooted 3 = .ok (.iload_n 1, 1) := by decide +kernel
theorem dLw_rooted_4 : decode cLw_rooted 4 = .ok (.invokevirtual 40, 3) := by decide +kernel
theorem dLw_rooted_7 : decode cLw_rooted 7 = .ok (.i2l, 1) := by decide +kernel
theorem dLw_rooted_8 : decode cLw_rooted 8 = .ok (.lastore, 1) := by decide +kernel
theorem dLw_rooted_9 : decode cLw_rooted 9 = .ok (.goto 6, 3) := by decide +kernel
theorem dLw_rooted_12 : decode cLw_rooted 12 = .ok (.astore_n 3, 1) := by decide +kernel
theorem dLw_rooted_13 : decode cLw_rooted 13 = .ok (.iconst 1, 1) := by decide +kernel
theorem dLw_rooted_14 : decode cLw_rooted 14 = .ok (.ireturn, 1) := by decide +kernel
theorem dLw_rooted_15 : decode cLw_rooted 15 = .ok (.iconst 0, 1) := by decide +kernel
theorem dLw_rooted_16 : decode cLw_rooted 16 = .ok (.ireturn, 1) := by decide +kernel
theorem dLw_collect_0 : decode cLw_collect 0 = .ok (.aload_n 1, 1) := by decide +kernel
theorem dLw_collect_1 : decode cLw_collect 1 = .ok (.iconst 0, 1) := by decide +kernel
theorem dLw_collect_2 : decode cLw_collect 2 = .ok (.aload_n 0, 1) := by decide +kernel
theorem dLw_collect_3 : decode cLw_collect 3 = .ok (.invokevirtual 43, 3) := by decide +kernel
theorem dLw_collect_6 : decode cLw_collect 6 = .ok (.i2l, 1) := by decide +kernel
theorem dLw_collect_7 : decode cLw_collect 7 = .ok (.lastore, 1) := by decide +kernel
theorem dLw_collect_8 : decode cLw_collect 8 = .ok (.goto 6, 3) := by decide +kernel
theorem dLw_collect_11 : decode cLw_collect 11 = .ok (.astore_n 2, 1) := by decide +kernel
theorem dLw_collect_12 : decode cLw_collect 12 = .ok (.iconst 1, 1) := by decide +kernel
theorem dLw_collect_13 : decode cLw_collect 13 = .ok (.ireturn, 1) := by decide +kernel
theorem dLw_collect_14 : decode cLw_collect 14 = .ok (.iconst 0, 1) := by decide +kernel
theorem dLw_collect_15 : decode cLw_collect 15 = .ok (.ireturn, 1) := by decide +kernel
theorem dLw_about_0 : decode cLw_about 0 = .ok (.aload_n 3, 1) := by decide +kernel
theorem dLw_about_1 : decode cLw_about 1 = .ok (.iconst 0, 1) := by decide +kernel
theorem dLw_about_2 : decode cLw_about 2 = .ok (.aload_n 0, 1) := by decide +kernel
theorem dLw_about_3 : decode cLw_about 3 = .ok (.iload_n 1, 1) := by decide +kernel
theorem dLw_about_4 : decode cLw_about 4 = .ok (.iload_n 2, 1) := by decide +kernel
theorem dLw_about_5 : decode cLw_about 5 = .ok (.invokevirtual 49, 3) := by decide +kernel
theorem dLw_about_8 : decode cLw_about 8 = .ok (.i2l, 1) := by decide +kernel
theorem dLw_about_9 : decode cLw_about 9 = .ok (.lastore, 1) := by decide +kernel
theorem dLw_about_10 : decode cLw_about 10 = .ok (.goto 11, 3) := by decide +kernel
theorem dLw_about_13 : decode cLw_about 13 = .ok (.astore 4, 2) := by decide +kernel
theorem dLw_about_15 : decode cLw_about 15 = .ok (.iconst 1, 1) := by decide +kernel
theorem dLw_about_16 : decode cLw_about 16 = .ok (.ireturn, 1) := by decide +kernel
theorem dLw_about_17 : decode cLw_about 17 = .ok (.astore 4, 2) := by decide +kernel
theorem dLw_about_19 : decode cLw_about 19 = .ok (.iconst 2, 1) := by decide +kernel
theorem dLw_about_20 : decode cLw_about 20 = .ok (.ireturn, 1) := by decide +kernel
theorem dLw_about_21 : decode cLw_about 21 = .ok (.iconst 0, 1) := by decide +kernel
theorem dLw_about_22 : decode cLw_about 22 = .ok (.ireturn, 1) := by decide +kernel
theorem dLw_next_0 : decode cLw_next 0 = .ok (.aload_n 2, 1) := by decide +kernel
theorem dLw_next_1 : decode cLw_next 1 = .ok (.iconst 0, 1) := by decide +kernel
theorem dLw_next_2 : decode cLw_next 2 = .ok (.aload_n 0, 1) := by decide +kernel
theorem dLw_next_3 : decode cLw_next 3 = .ok (.iload_n 1, 1) := by decide +kernel
theorem dLw_next_4 : decode cLw_next 4 = .ok (.invokevirtual 52, 3) := by decide +kernel
theorem dLw_next_7 : decode cLw_next 7 = .ok (.i2l, 1) := by decide +kernel
theorem dLw_next_8 : decode cLw_next 8 = .ok (.lastore, 1) := by decide +kernel
theorem dLw_next_9 : decode cLw_next 9 = .ok (.goto 6, 3) := by decide +kernel
theorem dLw_next_12 : decode cLw_next 12 = .ok (.astore_n 3, 1) := by decide +kernel
theorem dLw_next_13 : decode cLw_next 13 = .ok (.iconst 1, 1) := by decide +kernel
theorem dLw_next_14 : decode cLw_next 14 = .ok (.ireturn, 1) := by decide +kernel
theorem dLw_next_15 : decode cLw_next 15 = .ok (.iconst 0, 1) := by decide +kernel
theorem dLw_next_16 : decode cLw_next 16 = .ok (.ireturn, 1) := by decide +kernel
theorem dLw_count_0 : decode cLw_count 0 = .ok (.aload_n 2, 1) := by decide +kernel
theorem dLw_count_1 : decode cLw_count 1 = .ok (.iconst 0, 1) := by decide +kernel
theorem dLw_count_2 : decode cLw_count 2 = .ok (.aload_n 0, 1) := by decide +kernel
theorem dLw_count_3 : decode cLw_count 3 = .ok (.iload_n 1, 1) := by decide +kernel
theorem dLw_count_4 : decode cLw_count 4 = .ok (.invokevirtual 55, 3) := by decide +kernel
theorem dLw_count_7 : decode cLw_count 7 = .ok (.i2l, 1) := by decide +kernel
theorem dLw_count_8 : decode cLw_count 8 = .ok (.lastore, 1) := by decide +kernel
theorem dLw_count_9 : decode cLw_count 9 = .ok (.goto 6, 3) := by decide +kernel
theorem dLw_count_12 : decode cLw_count 12 = .ok (.astore_n 3, 1) := by decide +kernel
theorem dLw_count_13 : decode cLw_count 13 = .ok (.iconst 1, 1) := by decide +kernel
theorem dLw_count_14 : decode cLw_count 14 = .ok (.ireturn, 1) := by decide +kernel
theorem dLw_count_15 : decode cLw_count 15 = .ok (.iconst 0, 1) := by decide +kernel
theorem dLw_count_16 : decode cLw_count 16 = .ok (.ireturn, 1) := by decide +kernel
theorem dlaw_0 : decode code 0 = .ok (.new 8, 3) := by decide +kernel
theorem dlaw_3 : decode code 3 = .ok (.dup, 1) := by decide +kernel
theorem dlaw_4 : decode code 4 = .ok (.invokespecial 58, 3) := by decide +kernel
theorem dlaw_7 : decode code 7 = .ok (.astore_n 1, 1) := by decide +kernel
theorem dlaw_8 : decode code 8 = .ok (.new 59, 3) := by decide +kernel
theorem dlaw_11 : decode code 11 = .ok (.dup, 1) := by decide +kernel
theorem dlaw_12 : decode code 12 = .ok (.invokespecial 61, 3) := by decide +kernel
theorem dlaw_15 : decode code 15 = .ok (.astore_n 2, 1) := by decide +kernel
theorem dlaw_16 : decode code 16 = .ok (.iconst 1, 1) := by decide +kernel
theorem dlaw_17 : decode code 17 = .ok (.newarray .long, 2) := by decide +kernel
theorem dlaw_19 : decode code 19 = .ok (.astore_n 3, 1) := by decide +kernel
theorem dlaw_20 : decode code 20 = .ok (.iconst 0, 1) := by decide +kernel
theorem dlaw_21 : decode code 21 = .ok (.istore 4, 2) := by decide +kernel
theorem dlaw_23 : decode code 23 = .ok (.iload 4, 2) := by decide +kernel
theorem dlaw_25 : decode code 25 = .ok (.aload_n 0, 1) := by decide +kernel
theorem dlaw_26 : decode code 26 = .ok (.arraylength, 1) := by decide +kernel
theorem dlaw_27 : decode code 27 = .ok (.iconst 4, 1) := by decide +kernel
theorem dlaw_28 : decode code 28 = .ok (.isub, 1) := by decide +kernel
theorem dlaw_29 : decode code 29 = .ok (.if_icmp .gt 929, 3) := by decide +kernel
theorem dlaw_32 : decode code 32 = .ok (.aload_n 0, 1) := by decide +kernel
theorem dlaw_33 : decode code 33 = .ok (.iload 4, 2) := by decide +kernel
theorem dlaw_35 : decode code 35 = .ok (.iaload, 1) := by decide +kernel
theorem dlaw_36 : decode code 36 = .ok (.bipush 15, 2) := by decide +kernel
theorem dlaw_38 : decode code 38 = .ok (.iand, 1) := by decide +kernel
theorem dlaw_39 : decode code 39 = .ok (.tableswitch 913 0 12 #[65, 145, 201, 269, 349, 417, 497, 565, 633, 689, 733, 801, 857], 65) := by decide +kernel
theorem dlaw_104 : decode code 104 = .ok (.aload_n 1, 1) := by decide +kernel
theorem dlaw_105 : decode code 105 = .ok (.aload_n 0, 1) := by decide +kernel
theorem dlaw_106 : decode code 106 = .ok (.iload 4, 2) := by decide +kernel
theorem dlaw_108 : decode code 108 = .ok (.iconst 1, 1) := by decide +kernel
theorem dlaw_109 : decode code 109 = .ok (.iadd, 1) := by decide +kernel
theorem dlaw_110 : decode code 110 = .ok (.iaload, 1) := by decide +kernel
theorem dlaw_111 : decode code 111 = .ok (.aload_n 0, 1) := by decide +kernel
theorem dlaw_112 : decode code 112 = .ok (.iload 4, 2) := by decide +kernel
theorem dlaw_114 : decode code 114 = .ok (.iconst 2, 1) := by decide +kernel
theorem dlaw_115 : decode code 115 = .ok (.iadd, 1) := by decide +kernel
theorem dlaw_116 : decode code 116 = .ok (.iaload, 1) := by decide +kernel
theorem dlaw_117 : decode code 117 = .ok (.aload_n 0, 1) := by decide +kernel
theorem dlaw_118 : decode code 118 = .ok (.iload 4, 2) := by decide +kernel
theorem dlaw_120 : decode code 120 = .ok (.iconst 3, 1) := by decide +kernel
theorem dlaw_121 : decode code 121 = .ok (.iadd, 1) := by decide +kernel
theorem dlaw_122 : decode code 122 = .ok (.iaload, 1) := by decide +kernel
theorem dlaw_123 : decode code 123 = .ok (.aload_n 3, 1) := by decide +kernel
theorem dlaw_124 : decode code 124 = .ok (.invokestatic 62, 3) := by decide +kernel
theorem dlaw_127 : decode code 127 = .ok (.istore 5, 2) := by decide +kernel
theorem dlaw_129 : decode code 129 = .ok (.aload_n 2, 1) := by decide +kernel
theorem dlaw_130 : decode code 130 = .ok (.aload_n 0, 1) := by decide +kernel
theorem dlaw_131 : decode code 131 = .ok (.iload 4, 2) := by decide +kernel
theorem dlaw_133 : decode code 133 = .ok (.iconst 1, 1) := by decide +kernel
theorem dlaw_134 : decode code 134 = .ok (.iadd, 1) := by decide +kernel
theorem dlaw_135 : decode code 135 = .ok (.iaload, 1) := by decide +kernel
theorem dlaw_136 : decode code 136 = .ok (.aload_n 0, 1) := by decide +kernel
theorem dlaw_137 : decode code 137 = .ok (.iload 4, 2) := by decide +kernel
theorem dlaw_139 : decode code 139 = .ok (.iconst 2, 1) := by decide +kernel
theorem dlaw_140 : decode code 140 = .ok (.iadd, 1) := by decide +kernel
theorem dlaw_141 : decode code 141 = .ok (.iaload, 1) := by decide +kernel
theorem dlaw_142 : decode code 142 = .ok (.aload_n 0, 1) := by decide +kernel
theorem dlaw_143 : decode code 143 = .ok (.iload 4, 2) := by decide +kernel
theorem dlaw_145 : decode code 145 = .ok (.iconst 3, 1) := by decide +kernel
theorem dlaw_146 : decode code 146 = .ok (.iadd, 1) := by decide +kernel
theorem dlaw_147 : decode code 147 = .ok (.iaload, 1) := by decide +kernel
theorem dlaw_148 : decode code 148 = .ok (.invokevirtual 67, 3) := by decide +kernel
theorem dlaw_151 : decode code 151 = .ok (.istore 6, 2) := by decide +kernel
theorem dlaw_153 : decode code 153 = .ok (.aload_n 2, 1) := by decide +kernel
theorem dlaw_154 : decode code 154 = .ok (.invokevirtual 68, 3) := by decide +kernel
theorem dlaw_157 : decode code 157 = .ok (.iload 5, 2) := by decide +kernel
theorem dlaw_159 : decode code 159 = .ok (.if_icmp .eq 5, 3) := by decide +kernel
theorem dlaw_162 : decode code 162 = .ok (.iconst 0, 1) := by decide +kernel
theorem dlaw_163 : decode code 163 = .ok (.ireturn, 1) := by decide +kernel
theorem dlaw_164 : decode code 164 = .ok (.iload 5, 2) := by decide +kernel
theorem dlaw_166 : decode code 166 = .ok (.ifCond .ne 15, 3) := by decide +kernel
theorem dlaw_169 : decode code 169 = .ok (.aload_n 3, 1) := by decide +kernel
theorem dlaw_170 : decode code 170 = .ok (.iconst 0, 1) := by decide +kernel
theorem dlaw_171 : decode code 171 = .ok (.laload, 1) := by decide +kernel
theorem dlaw_172 : decode code 172 = .ok (.iload 6, 2) := by decide +kernel
theorem dlaw_174 : decode code 174 = .ok (.i2l, 1) := by decide +kernel
theorem dlaw_175 : decode code 175 = .ok (.lcmp, 1) := by decide +kernel
theorem dlaw_176 : decode code 176 = .ok (.ifCond .eq 5, 3) := by decide +kernel
theorem dlaw_179 : decode code 179 = .ok (.iconst 0, 1) := by decide +kernel
theorem dlaw_180 : decode code 180 = .ok (.ireturn, 1) := by decide +kernel
theorem dlaw_181 : decode code 181 = .ok (.goto 771, 3) := by decide +kernel
theorem dlaw_184 : decode code 184 = .ok (.aload_n 1, 1) := by decide +kernel
theorem dlaw_185 : decode code 185 = .ok (.aload_n 0, 1) := by decide +kernel
theorem dlaw_186 : decode code 186 = .ok (.iload 4, 2) := by decide +kernel
theorem dlaw_188 : decode code 188 = .ok (.iconst 1, 1) := by decide +kernel
theorem dlaw_189 : decode code 189 = .ok (.iadd, 1) := by decide +kernel
theorem dlaw_190 : decode code 190 = .ok (.iaload, 1) := by decide +kernel
theorem dlaw_191 : decode code 191 = .ok (.aload_n 3, 1) := by decide +kernel
theorem dlaw_192 : decode code 192 = .ok (.invokestatic 71, 3) := by decide +kernel
theorem dlaw_195 : decode code 195 = .ok (.istore 5, 2) := by decide +kernel
theorem dlaw_197 : decode code 197 = .ok (.aload_n 2, 1) := by decide +kernel
theorem dlaw_198 : decode code 198 = .ok (.aload_n 0, 1) := by decide +kernel
theorem dlaw_199 : decode code 199 = .ok (.iload 4, 2) := by decide +kernel
theorem dlaw_201 : decode code 201 = .ok (.iconst 1, 1) := by decide +kernel
theorem dlaw_202 : decode code 202 = .ok (.iadd, 1) := by decide +kernel
theorem dlaw_203 : decode code 203 = .ok (.iaload, 1) := by decide +kernel
theorem dlaw_204 : decode code 204 = .ok (.invokevirtual 74, 3) := by decide +kernel
theorem dlaw_207 : decode code 207 = .ok (.istore 6, 2) := by decide +kernel
theorem dlaw_209 : decode code 209 = .ok (.aload_n 2, 1) := by decide +kernel
theorem dlaw_210 : decode code 210 = .ok (.invokevirtual 68, 3) := by decide +kernel
theorem dlaw_213 : decode code 213 = .ok (.iload 5, 2) := by decide +kernel
theorem dlaw_215 : decode code 215 = .ok (.if_icmp .eq 5, 3) := by decide +kernel
theorem dlaw_218 : decode code 218 = .ok (.iconst 0, 1) := by decide +kernel
theorem dlaw_219 : decode code 219 = .ok (.ireturn, 1) := by decide +kernel
theorem dlaw_220 : decode code 220 = .ok (.iload 5, 2) := by decide +kernel
theorem dlaw_222 : decode code 222 = .ok (.ifCond .ne 15, 3) := by decide +kernel
theorem dlaw_225 : decode code 225 = .ok (.aload_n 3, 1) := by decide +kernel
theorem dlaw_226 : decode code 226 = .ok (.iconst 0, 1) := by decide +kernel
theorem dlaw_227 : decode code 227 = .ok (.laload, 1) := by decide +kernel
theorem dlaw_228 : decode code 228 = .ok (.iload 6, 2) := by decide +kernel
theorem dlaw_230 : decode code 230 = .ok (.i2l, 1) := by decide +kernel
theorem dlaw_231 : decode code 231 = .ok (.lcmp, 1) := by decide +kernel
theorem dlaw_232 : decode code 232 = .ok (.ifCond .eq 5, 3) := by decide +kernel
theorem dlaw_235 : decode code 235 = .ok (.iconst 0, 1) := by decide +kernel
theorem dlaw_236 : decode code 236 = .ok (.ireturn, 1) := by decide +kernel
theorem dlaw_237 : decode code 237 = .ok (.goto 715, 3) := by decide +kernel
theorem dlaw_240 : decode code 240 = .ok (.aload_n 1, 1) := by decide +kernel
theorem dlaw_241 : decode code 241 = .ok (.aload_n 0, 1) := by decide +kernel
theorem dlaw_242 : decode code 242 = .ok (.iload 4, 2) := by decide +kernel
theorem dlaw_244 : decode code 244 = .ok (.iconst 1, 1) := by decide +kernel
theorem dlaw_245 : decode code 245 = .ok (.iadd, 1) := by decide +kernel
theorem dlaw_246 : decode code 246 = .ok (.iaload, 1) := by decide +kernel
theorem dlaw_247 : decode code 247 = .ok (.aload_n 0, 1) := by decide +kernel
theorem dlaw_248 : decode code 248 = .ok (.iload 4, 2) := by decide +kernel
theorem dlaw_250 : decode code 250 = .ok (.iconst 2, 1) := by decide +kernel
theorem dlaw_251 : decode code 251 = .ok (.iadd, 1) := by decide +kernel
theorem dlaw_252 : decode code 252 = .ok (.iaload, 1) := by decide +kernel
theorem dlaw_253 : decode code 253 = .ok (.aload_n 3, 1) := by decide +kernel
theorem dlaw_254 : decode code 254 = .ok (.invokestatic 75, 3) := by decide +kernel
theorem dlaw_257 : decode code 257 = .ok (.istore 5, 2) := by decide +kernel
theorem dlaw_259 : decode code 259 = .ok (.aload_n 2, 1) := by decide +kernel
theorem dlaw_260 : decode code 260 = .ok (.aload_n 0, 1) := by decide +kernel
theorem dlaw_261 : decode code 261 = .ok (.iload 4, 2) := by decide +kernel
theorem dlaw_263 : decode code 263 = .ok (.iconst 1, 1) := by decide +kernel
theorem dlaw_264 : decode code 264 = .ok (.iadd, 1) := by decide +kernel
theorem dlaw_265 : decode code 265 = .ok (.iaload, 1) := by decide +kernel
theorem dlaw_266 : decode code 266 = .ok (.aload_n 0, 1) := by decide +kernel
theorem dlaw_267 : decode code 267 = .ok (.iload 4, 2) := by decide +kernel
theorem dlaw_269 : decode code 269 = .ok (.iconst 2, 1) := by decide +kernel
theorem dlaw_270 : decode code 270 = .ok (.iadd, 1) := by decide +kernel
theorem dlaw_271 : decode code 271 = .ok (.iaload, 1) := by decide +kernel
theorem dlaw_272 : decode code 272 = .ok (.invokevirtual 78, 3) := by decide +kernel
theorem dlaw_275 : decode code 275 = .ok (.istore 6, 2) := by decide +kernel
theorem dlaw_277 : decode code 277 = .ok (.aload_n 2, 1) := by decide +kernel
theorem dlaw_278 : decode code 278 = .ok (.invokevirtual 68, 3) := by decide +kernel
theorem dlaw_281 : decode code 281 = .ok (.iload 5, 2) := by decide +kernel
theorem dlaw_283 : decode code 283 = .ok (.if_icmp .eq 5, 3) := by decide +kernel
theorem dlaw_286 : decode code 286 = .ok (.iconst 0, 1) := by decide +kernel
theorem dlaw_287 : decode code 287 = .ok (.ireturn, 1) := by decide +kernel
theorem dlaw_288 : decode code 288 = .ok (.iload 5, 2) := by decide +kernel
theorem dlaw_290 : decode code 290 = .ok (.ifCond .ne 15, 3) := by decide +kernel
theorem dlaw_293 : decode code 293 = .ok (.aload_n 3, 1) := by decide +kernel
theorem dlaw_294 : decode code 294 = .ok (.iconst 0, 1) := by decide +kernel
theorem dlaw_295 : decode code 295 = .ok (.laload, 1) := by decide +kernel
theorem dlaw_296 : decode code 296 = .ok (.iload 6, 2) := by decide +kernel
theorem dlaw_298 : decode code 298 = .ok (.i2l, 1) := by decide +kernel
theorem dlaw_299 : decode code 299 = .ok (.lcmp, 1) := by decide +kernel
theorem dlaw_300 : decode code 300 = .ok (.ifCond .eq 5, 3) := by decide +kernel
theorem dlaw_303 : decode code 303 = .ok (.iconst 0, 1) := by decide +kernel
theorem dlaw_304 : decode code 304 = .ok (.ireturn, 1) := by decide +kernel
theorem dlaw_305 : decode code 305 = .ok (.goto 647, 3) := by decide +kernel
theorem dlaw_308 : decode code 308 = .ok (.aload_n 1, 1) := by decide +kernel
theorem dlaw_309 : decode code 309 = .ok (.aload_n 0, 1) := by decide +kernel
theorem dlaw_310 : decode code 310 = .ok (.iload 4, 2) := by decide +kernel
theorem dlaw_312 : decode code 312 = .ok (.iconst 1, 1) := by decide +kernel
theorem dlaw_313 : decode code 313 = .ok (.iadd, 1) := by decide +kernel
theorem dlaw_314 : decode code 314 = .ok (.iaload, 1) := by decide +kernel
theorem dlaw_315 : decode code 315 = .ok (.aload_n 0, 1) := by decide +kernel
theorem dlaw_316 : decode code 316 = .ok (.iload 4, 2) := by decide +kernel
theorem dlaw_318 : decode code 318 = .ok (.iconst 2, 1) := by decide +kernel
theorem dlaw_319 : decode code 319 = .ok (.iadd, 1) := by decide +kernel
theorem dlaw_320 : decode code 320 = .ok (.iaload, 1) := by decide +kernel
theorem dlaw_321 : decode code 321 = .ok (.aload_n 0, 1) := by decide +kernel
theorem dlaw_322 : decode code 322 = .ok (.iload 4, 2) := by decide +kernel
theorem dlaw_324 : decode code 324 = .ok (.iconst 3, 1) := by decide +kernel
theorem dlaw_325 : decode code 325 = .ok (.iadd, 1) := by decide +kernel
theorem dlaw_326 : decode code 326 = .ok (.iaload, 1) := by decide +kernel
theorem dlaw_327 : decode code 327 = .ok (.aload_n 3, 1) := by decide +kernel
theorem dlaw_328 : decode code 328 = .ok (.invokestatic 79, 3) := by decide +kernel
theorem dlaw_331 : decode code 331 = .ok (.istore 5, 2) := by decide +kernel
theorem dlaw_333 : decode code 333 = .ok (.aload_n 2, 1) := by decide +kernel
theorem dlaw_334 : decode code 334 = .ok (.aload_n 0, 1) := by decide +kernel
theorem dlaw_335 : decode code 335 = .ok (.iload 4, 2) := by decide +kernel
theorem dlaw_337 : decode code 337 = .ok (.iconst 1, 1) := by decide +kernel
theorem dlaw_338 : decode code 338 = .ok (.iadd, 1) := by decide +kernel
theorem dlaw_339 : decode code 339 = .ok (.iaload, 1) := by decide +kernel
theorem dlaw_340 : decode code 340 = .ok (.aload_n 0, 1) := by decide +kernel
theorem dlaw_341 : decode code 341 = .ok (.iload 4, 2) := by decide +kernel
theorem dlaw_343 : decode code 343 = .ok (.iconst 2, 1) := by decide +kernel
theorem dlaw_344 : decode code 344 = .ok (.iadd, 1) := by decide +kernel
theorem dlaw_345 : decode code 345 = .ok (.iaload, 1) := by decide +kernel
theorem dlaw_346 : decode code 346 = .ok (.aload_n 0, 1) := by decide +kernel
theorem dlaw_347 : decode code 347 = .ok (.iload 4, 2) := by decide +kernel
theorem dlaw_349 : decode code 349 = .ok (.iconst 3, 1) := by decide +kernel
theorem dlaw_350 : decode code 350 = .ok (.iadd, 1) := by decide +kernel
theorem dlaw_351 : decode code 351 = .ok (.iaload, 1) := by decide +kernel
theorem dlaw_352 : decode code 352 = .ok (.invokevirtual 81, 3) := by decide +kernel
theorem dlaw_355 : decode code 355 = .ok (.istore 6, 2) := by decide +kernel
theorem dlaw_357 : decode code 357 = .ok (.aload_n 2, 1) := by decide +kernel
theorem dlaw_358 : decode code 358 = .ok (.invokevirtual 68, 3) := by decide +kernel
theorem dlaw_361 : decode code 361 = .ok (.iload 5, 2) := by decide +kernel
theorem dlaw_363 : decode code 363 = .ok (.if_icmp .eq 5, 3) := by decide +kernel
theorem dlaw_366 : decode code 366 = .ok (.iconst 0, 1) := by decide +kernel
theorem dlaw_367 : decode code 367 = .ok (.ireturn, 1) := by decide +kernel
theorem dlaw_368 : decode code 368 = .ok (.iload 5, 2) := by decide +kernel
theorem dlaw_370 : decode code 370 = .ok (.ifCond .ne 15, 3) := by decide +kernel
theorem dlaw_373 : decode code 373 = .ok (.aload_n 3, 1) := by decide +kernel
theorem dlaw_374 : decode code 374 = .ok (.iconst 0, 1) := by decide +kernel
theorem dlaw_375 : decode code 375 = .ok (.laload, 1) := by decide +kernel
theorem dlaw_376 : decode code 376 = .ok (.iload 6, 2) := by decide +kernel
theorem dlaw_378 : decode code 378 = .ok (.i2l, 1) := by decide +kernel
theorem dlaw_379 : decode code 379 = .ok (.lcmp, 1) := by decide +kernel
theorem dlaw_380 : decode code 380 = .ok (.ifCond .eq 5, 3) := by decide +kernel
theorem dlaw_383 : decode code 383 = .ok (.iconst 0, 1) := by decide +kernel
theorem dlaw_384 : decode code 384 = .ok (.ireturn, 1) := by decide +kernel
theorem dlaw_385 : decode code 385 = .ok (.goto 567, 3) := by decide +kernel
theorem dlaw_388 : decode code 388 = .ok (.aload_n 1, 1) := by decide +kernel
theorem dlaw_389 : decode code 389 = .ok (.aload_n 0, 1) := by decide +kernel
theorem dlaw_390 : decode code 390 = .ok (.iload 4, 2) := by decide +kernel
theorem dlaw_392 : decode code 392 = .ok (.iconst 1, 1) := by decide +kernel
theorem dlaw_393 : decode code 393 = .ok (.iadd, 1) := by decide +kernel
theorem dlaw_394 : decode code 394 = .ok (.iaload, 1) := by decide +kernel
theorem dlaw_395 : decode code 395 = .ok (.aload_n 0, 1) := by decide +kernel
theorem dlaw_396 : decode code 396 = .ok (.iload 4, 2) := by decide +kernel
theorem dlaw_398 : decode code 398 = .ok (.iconst 2, 1) := by decide +kernel
theorem dlaw_399 : decode code 399 = .ok (.iadd, 1) := by decide +kernel
theorem dlaw_400 : decode code 400 = .ok (.iaload, 1) := by decide +kernel
theorem dlaw_401 : decode code 401 = .ok (.aload_n 3, 1) := by decide +kernel
theorem dlaw_402 : decode code 402 = .ok (.invokestatic 82, 3) := by decide +kernel
theorem dlaw_405 : decode code 405 = .ok (.istore 5, 2) := by decide +kernel
theorem dlaw_407 : decode code 407 = .ok (.aload_n 2, 1) := by decide +kernel
theorem dlaw_408 : decode code 408 = .ok (.aload_n 0, 1) := by decide +kernel
theorem dlaw_409 : decode code 409 = .ok (.iload 4, 2) := by decide +kernel
theorem dlaw_411 : decode code 411 = .ok (.iconst 1, 1) := by decide +kernel
theorem dlaw_412 : decode code 412 = .ok (.iadd, 1) := by decide +kernel
theorem dlaw_413 : decode code 413 = .ok (.iaload, 1) := by decide +kernel
theorem dlaw_414 : decode code 414 = .ok (.aload_n 0, 1) := by decide +kernel
theorem dlaw_415 : decode code 415 = .ok (.iload 4, 2) := by decide +kernel
theorem dlaw_417 : decode code 417 = .ok (.iconst 2, 1) := by decide +kernel
theorem dlaw_418 : decode code 418 = .ok (.iadd, 1) := by decide +kernel
theorem dlaw_419 : decode code 419 = .ok (.iaload, 1) := by decide +kernel
theorem dlaw_420 : decode code 420 = .ok (.invokevirtual 84, 3) := by decide +kernel
theorem dlaw_423 : decode code 423 = .ok (.istore 6, 2) := by decide +kernel
theorem dlaw_425 : decode code 425 = .ok (.aload_n 2, 1) := by decide +kernel
theorem dlaw_426 : decode code 426 = .ok (.invokevirtual 68, 3) := by decide +kernel
theorem dlaw_429 : decode code 429 = .ok (.iload 5, 2) := by decide +kernel
theorem dlaw_431 : decode code 431 = .ok (.if_icmp .eq 5, 3) := by decide +kernel
theorem dlaw_434 : decode code 434 = .ok (.iconst 0, 1) := by decide +kernel
theorem dlaw_435 : decode code 435 = .ok (.ireturn, 1) := by decide +kernel
theorem dlaw_436 : decode code 436 = .ok (.iload 5, 2) := by decide +kernel
theorem dlaw_438 : decode code 438 = .ok (.ifCond .ne 15, 3) := by decide +kernel
theorem dlaw_441 : decode code 441 = .ok (.aload_n 3, 1) := by decide +kernel
theorem dlaw_442 : decode code 442 = .ok (.iconst 0, 1) := by decide +kernel
theorem dlaw_443 : decode code 443 = .ok (.laload, 1) := by decide +kernel
theorem dlaw_444 : decode code 444 = .ok (.iload 6, 2) := by decide +kernel
theorem dlaw_446 : decode code 446 = .ok (.i2l, 1) := by decide +kernel
theorem dlaw_447 : decode code 447 = .ok (.lcmp, 1) := by decide +kernel
theorem dlaw_448 : decode code 448 = .ok (.ifCond .eq 5, 3) := by decide +kernel
theorem dlaw_451 : decode code 451 = .ok (.iconst 0, 1) := by decide +kernel
theorem dlaw_452 : decode code 452 = .ok (.ireturn, 1) := by decide +kernel
theorem dlaw_453 : decode code 453 = .ok (.goto 499, 3) := by decide +kernel
theorem dlaw_456 : decode code 456 = .ok (.aload_n 1, 1) := by decide +kernel
theorem dlaw_457 : decode code 457 = .ok (.aload_n 0, 1) := by decide +kernel
theorem dlaw_458 : decode code 458 = .ok (.iload 4, 2) := by decide +kernel
theorem dlaw_460 : decode code 460 = .ok (.iconst 1, 1) := by decide +kernel
theorem dlaw_461 : decode code 461 = .ok (.iadd, 1) := by decide +kernel
theorem dlaw_462 : decode code 462 = .ok (.iaload, 1) := by decide +kernel
theorem dlaw_463 : decode code 463 = .ok (.aload_n 0, 1) := by decide +kernel
theorem dlaw_464 : decode code 464 = .ok (.iload 4, 2) := by decide +kernel
theorem dlaw_466 : decode code 466 = .ok (.iconst 2, 1) := by decide +kernel
theorem dlaw_467 : decode code 467 = .ok (.iadd, 1) := by decide +kernel
theorem dlaw_468 : decode code 468 = .ok (.iaload, 1) := by decide +kernel
theorem dlaw_469 : decode code 469 = .ok (.aload_n 0, 1) := by decide +kernel
theorem dlaw_470 : decode code 470 = .ok (.iload 4, 2) := by decide +kernel
theorem dlaw_472 : decode code 472 = .ok (.iconst 3, 1) := by decide +kernel
theorem dlaw_473 : decode code 473 = .ok (.iadd, 1) := by decide +kernel
theorem dlaw_474 : decode code 474 = .ok (.iaload, 1) := by decide +kernel
theorem dlaw_475 : decode code 475 = .ok (.aload_n 3, 1) := by decide +kernel
theorem dlaw_476 : decode code 476 = .ok (.invokestatic 85, 3) := by decide +kernel
theorem dlaw_479 : decode code 479 = .ok (.istore 5, 2) := by decide +kernel
theorem dlaw_481 : decode code 481 = .ok (.aload_n 2, 1) := by decide +kernel
theorem dlaw_482 : decode code 482 = .ok (.aload_n 0, 1) := by decide +kernel
theorem dlaw_483 : decode code 483 = .ok (.iload 4, 2) := by decide +kernel
theorem dlaw_485 : decode code 485 = .ok (.iconst 1, 1) := by decide +kernel
theorem dlaw_486 : decode code 486 = .ok (.iadd, 1) := by decide +kernel
theorem dlaw_487 : decode code 487 = .ok (.iaload, 1) := by decide +kernel
theorem dlaw_488 : decode code 488 = .ok (.aload_n 0, 1) := by decide +kernel
theorem dlaw_489 : decode code 489 = .ok (.iload 4, 2) := by decide +kernel
theorem dlaw_491 : decode code 491 = .ok (.iconst 2, 1) := by decide +kernel
theorem dlaw_492 : decode code 492 = .ok (.iadd, 1) := by decide +kernel
theorem dlaw_493 : decode code 493 = .ok (.iaload, 1) := by decide +kernel
theorem dlaw_494 : decode code 494 = .ok (.aload_n 0, 1) := by decide +kernel
theorem dlaw_495 : decode code 495 = .ok (.iload 4, 2) := by decide +kernel
theorem dlaw_497 : decode code 497 = .ok (.iconst 3, 1) := by decide +kernel
theorem dlaw_498 : decode code 498 = .ok (.iadd, 1) := by decide +kernel
theorem dlaw_499 : decode code 499 = .ok (.iaload, 1) := by decide +kernel
theorem dlaw_500 : decode code 500 = .ok (.invokevirtual 87, 3) := by decide +kernel
theorem dlaw_503 : decode code 503 = .ok (.istore 6, 2) := by decide +kernel
theorem dlaw_505 : decode code 505 = .ok (.aload_n 2, 1) := by decide +kernel
theorem dlaw_506 : decode code 506 = .ok (.invokevirtual 68, 3) := by decide +kernel
theorem dlaw_509 : decode code 509 = .ok (.iload 5, 2) := by decide +kernel
theorem dlaw_511 : decode code 511 = .ok (.if_icmp .eq 5, 3) := by decide +kernel
theorem dlaw_514 : decode code 514 = .ok (.iconst 0, 1) := by decide +kernel
theorem dlaw_515 : decode code 515 = .ok (.ireturn, 1) := by decide +kernel
theorem dlaw_516 : decode code 516 = .ok (.iload 5, 2) := by decide +kernel
theorem dlaw_518 : decode code 518 = .ok (.ifCond .ne 15, 3) := by decide +kernel
theorem dlaw_521 : decode code 521 = .ok (.aload_n 3, 1) := by decide +kernel
theorem dlaw_522 : decode code 522 = .ok (.iconst 0, 1) := by decide +kernel
theorem dlaw_523 : decode code 523 = .ok (.laload, 1) := by decide +kernel
theorem dlaw_524 : decode code 524 = .ok (.iload 6, 2) := by decide +kernel
theorem dlaw_526 : decode code 526 = .ok (.i2l, 1) := by decide +kernel
theorem dlaw_527 : decode code 527 = .ok (.lcmp, 1) := by decide +kernel
theorem dlaw_528 : decode code 528 = .ok (.ifCond .eq 5, 3) := by decide +kernel
theorem dlaw_531 : decode code 531 = .ok (.iconst 0, 1) := by decide +kernel
theorem dlaw_532 : decode code 532 = .ok (.ireturn, 1) := by decide +kernel
theorem dlaw_533 : decode code 533 = .ok (.goto 419, 3) := by decide +kernel
theorem dlaw_536 : decode code 536 = .ok (.aload_n 1, 1) := by decide +kernel
theorem dlaw_537 : decode code 537 = .ok (.aload_n 0, 1) := by decide +kernel
theorem dlaw_538 : decode code 538 = .ok (.iload 4, 2) := by decide +kernel
theorem dlaw_540 : decode code 540 = .ok (.iconst 1, 1) := by decide +kernel
theorem dlaw_541 : decode code 541 = .ok (.iadd, 1) := by decide +kernel
theorem dlaw_542 : decode code 542 = .ok (.iaload, 1) := by decide +kernel
theorem dlaw_543 : decode code 543 = .ok (.aload_n 0, 1) := by decide +kernel
theorem dlaw_544 : decode code 544 = .ok (.iload 4, 2) := by decide +kernel
theorem dlaw_546 : decode code 546 = .ok (.iconst 2, 1) := by decide +kernel
theorem dlaw_547 : decode code 547 = .ok (.iadd, 1) := by decide +kernel
theorem dlaw_548 : decode code 548 = .ok (.iaload, 1) := by decide +kernel
theorem dlaw_549 : decode code 549 = .ok (.aload_n 3, 1) := by decide +kernel
theorem dlaw_550 : decode code 550 = .ok (.invokestatic 88, 3) := by decide +kernel
theorem dlaw_553 : decode code 553 = .ok (.istore 5, 2) := by decide +kernel
theorem dlaw_555 : decode code 555 = .ok (.aload_n 2, 1) := by decide +kernel
theorem dlaw_556 : decode code 556 = .ok (.aload_n 0, 1) := by decide +kernel
theorem dlaw_557 : decode code 557 = .ok (.iload 4, 2) := by decide +kernel
theorem dlaw_559 : decode code 559 = .ok (.iconst 1, 1) := by decide +kernel
theorem dlaw_560 : decode code 560 = .ok (.iadd, 1) := by decide +kernel
theorem dlaw_561 : decode code 561 = .ok (.iaload, 1) := by decide +kernel
theorem dlaw_562 : decode code 562 = .ok (.aload_n 0, 1) := by decide +kernel
theorem dlaw_563 : decode code 563 = .ok (.iload 4, 2) := by decide +kernel
theorem dlaw_565 : decode code 565 = .ok (.iconst 2, 1) := by decide +kernel
theorem dlaw_566 : decode code 566 = .ok (.iadd, 1) := by decide +kernel
theorem dlaw_567 : decode code 567 = .ok (.iaload, 1) := by decide +kernel
theorem dlaw_568 : decode code 568 = .ok (.invokevirtual 90, 3) := by decide +kernel
theorem dlaw_571 : decode code 571 = .ok (.istore 6, 2) := by decide +kernel
theorem dlaw_573 : decode code 573 = .ok (.aload_n 2, 1) := by decide +kernel
theorem dlaw_574 : decode code 574 = .ok (.invokevirtual 68, 3) := by decide +kernel
theorem dlaw_577 : decode code 577 = .ok (.iload 5, 2) := by decide +kernel
theorem dlaw_579 : decode code 579 = .ok (.if_icmp .eq 5, 3) := by decide +kernel
theorem dlaw_582 : decode code 582 = .ok (.iconst 0, 1) := by decide +kernel
theorem dlaw_583 : decode code 583 = .ok (.ireturn, 1) := by decide +kernel
theorem dlaw_584 : decode code 584 = .ok (.iload 5, 2) := by decide +kernel
theorem dlaw_586 : decode code 586 = .ok (.ifCond .ne 15, 3) := by decide +kernel
theorem dlaw_589 : decode code 589 = .ok (.aload_n 3, 1) := by decide +kernel
theorem dlaw_590 : decode code 590 = .ok (.iconst 0, 1) := by decide +kernel
theorem dlaw_591 : decode code 591 = .ok (.laload, 1) := by decide +kernel
theorem dlaw_592 : decode code 592 = .ok (.iload 6, 2) := by decide +kernel
theorem dlaw_594 : decode code 594 = .ok (.i2l, 1) := by decide +kernel
theorem dlaw_595 : decode code 595 = .ok (.lcmp, 1) := by decide +kernel
theorem dlaw_596 : decode code 596 = .ok (.ifCond .eq 5, 3) := by decide +kernel
theorem dlaw_599 : decode code 599 = .ok (.iconst 0, 1) := by decide +kernel
theorem dlaw_600 : decode code 600 = .ok (.ireturn, 1) := by decide +kernel
theorem dlaw_601 : decode code 601 = .ok (.goto 351, 3) := by decide +kernel
theorem dlaw_604 : decode code 604 = .ok (.aload_n 1, 1) := by decide +kernel
theorem dlaw_605 : decode code 605 = .ok (.aload_n 0, 1) := by decide +kernel
theorem dlaw_606 : decode code 606 = .ok (.iload 4, 2) := by decide +kernel
theorem dlaw_608 : decode code 608 = .ok (.iconst 1, 1) := by decide +kernel
theorem dlaw_609 : decode code 609 = .ok (.iadd, 1) := by decide +kernel
theorem dlaw_610 : decode code 610 = .ok (.iaload, 1) := by decide +kernel
theorem dlaw_611 : decode code 611 = .ok (.aload_n 0, 1) := by decide +kernel
theorem dlaw_612 : decode code 612 = .ok (.iload 4, 2) := by decide +kernel
theorem dlaw_614 : decode code 614 = .ok (.iconst 2, 1) := by decide +kernel
theorem dlaw_615 : decode code 615 = .ok (.iadd, 1) := by decide +kernel
theorem dlaw_616 : decode code 616 = .ok (.iaload, 1) := by decide +kernel
theorem dlaw_617 : decode code 617 = .ok (.aload_n 3, 1) := by decide +kernel
theorem dlaw_618 : decode code 618 = .ok (.invokestatic 91, 3) := by decide +kernel
theorem dlaw_621 : decode code 621 = .ok (.istore 5, 2) := by decide +kernel
theorem dlaw_623 : decode code 623 = .ok (.aload_n 2, 1) := by decide +kernel
theorem dlaw_624 : decode code 624 = .ok (.aload_n 0, 1) := by decide +kernel
theorem dlaw_625 : decode code 625 = .ok (.iload 4, 2) := by decide +kernel
theorem dlaw_627 : decode code 627 = .ok (.iconst 1, 1) := by decide +kernel
theorem dlaw_628 : decode code 628 = .ok (.iadd, 1) := by decide +kernel
theorem dlaw_629 : decode code 629 = .ok (.iaload, 1) := by decide +kernel
theorem dlaw_630 : decode code 630 = .ok (.aload_n 0, 1) := by decide +kernel
theorem dlaw_631 : decode code 631 = .ok (.iload 4, 2) := by decide +kernel
theorem dlaw_633 : decode code 633 = .ok (.iconst 2, 1) := by decide +kernel
theorem dlaw_634 : decode code 634 = .ok (.iadd, 1) := by decide +kernel
theorem dlaw_635 : decode code 635 = .ok (.iaload, 1) := by decide +kernel
theorem dlaw_636 : decode code 636 = .ok (.invokevirtual 93, 3) := by decide +kernel
theorem dlaw_639 : decode code 639 = .ok (.istore 6, 2) := by decide +kernel
theorem dlaw_641 : decode code 641 = .ok (.aload_n 2, 1) := by decide +kernel
theorem dlaw_642 : decode code 642 = .ok (.invokevirtual 68, 3) := by decide +kernel
theorem dlaw_645 : decode code 645 = .ok (.iload 5, 2) := by decide +kernel
theorem dlaw_647 : decode code 647 = .ok (.if_icmp .eq 5, 3) := by decide +kernel
theorem dlaw_650 : decode code 650 = .ok (.iconst 0, 1) := by decide +kernel
theorem dlaw_651 : decode code 651 = .ok (.ireturn, 1) := by decide +kernel
theorem dlaw_652 : decode code 652 = .ok (.iload 5, 2) := by decide +kernel
theorem dlaw_654 : decode code 654 = .ok (.ifCond .ne 15, 3) := by decide +kernel
theorem dlaw_657 : decode code 657 = .ok (.aload_n 3, 1) := by decide +kernel
theorem dlaw_658 : decode code 658 = .ok (.iconst 0, 1) := by decide +kernel
theorem dlaw_659 : decode code 659 = .ok (.laload, 1) := by decide +kernel
theorem dlaw_660 : decode code 660 = .ok (.iload 6, 2) := by decide +kernel
theorem dlaw_662 : decode code 662 = .ok (.i2l, 1) := by decide +kernel
theorem dlaw_663 : decode code 663 = .ok (.lcmp, 1) := by decide +kernel
theorem dlaw_664 : decode code 664 = .ok (.ifCond .eq 5, 3) := by decide +kernel
theorem dlaw_667 : decode code 667 = .ok (.iconst 0, 1) := by decide +kernel
theorem dlaw_668 : decode code 668 = .ok (.ireturn, 1) := by decide +kernel
theorem dlaw_669 : decode code 669 = .ok (.goto 283, 3) := by decide +kernel
theorem dlaw_672 : decode code 672 = .ok (.aload_n 1, 1) := by decide +kernel
theorem dlaw_673 : decode code 673 = .ok (.aload_n 0, 1) := by decide +kernel
theorem dlaw_674 : decode code 674 = .ok (.iload 4, 2) := by decide +kernel
theorem dlaw_676 : decode code 676 = .ok (.iconst 1, 1) := by decide +kernel
theorem dlaw_677 : decode code 677 = .ok (.iadd, 1) := by decide +kernel
theorem dlaw_678 : decode code 678 = .ok (.iaload, 1) := by decide +kernel
theorem dlaw_679 : decode code 679 = .ok (.aload_n 3, 1) := by decide +kernel
theorem dlaw_680 : decode code 680 = .ok (.invokestatic 94, 3) := by decide +kernel
theorem dlaw_683 : decode code 683 = .ok (.istore 5, 2) := by decide +kernel
theorem dlaw_685 : decode code 685 = .ok (.aload_n 2, 1) := by decide +kernel
theorem dlaw_686 : decode code 686 = .ok (.aload_n 0, 1) := by decide +kernel
theorem dlaw_687 : decode code 687 = .ok (.iload 4, 2) := by decide +kernel
theorem dlaw_689 : decode code 689 = .ok (.iconst 1, 1) := by decide +kernel
theorem dlaw_690 : decode code 690 = .ok (.iadd, 1) := by decide +kernel
theorem dlaw_691 : decode code 691 = .ok (.iaload, 1) := by decide +kernel
theorem dlaw_692 : decode code 692 = .ok (.invokevirtual 96, 3) := by decide +kernel
theorem dlaw_695 : decode code 695 = .ok (.istore 6, 2) := by decide +kernel
theorem dlaw_697 : decode code 697 = .ok (.aload_n 2, 1) := by decide +kernel
theorem dlaw_698 : decode code 698 = .ok (.invokevirtual 68, 3) := by decide +kernel
theorem dlaw_701 : decode code 701 = .ok (.iload 5, 2) := by decide +kernel
theorem dlaw_703 : decode code 703 = .ok (.if_icmp .eq 5, 3) := by decide +kernel
theorem dlaw_706 : decode code 706 = .ok (.iconst 0, 1) := by decide +kernel
theorem dlaw_707 : decode code 707 = .ok (.ireturn, 1) := by decide +kernel
theorem dlaw_708 : decode code 708 = .ok (.iload 5, 2) := by decide +kernel
theorem dlaw_710 : decode code 710 = .ok (.ifCond .ne 15, 3) := by decide +kernel
theorem dlaw_713 : decode code 713 = .ok (.aload_n 3, 1) := by decide +kernel
theorem dlaw_714 : decode code 714 = .ok (.iconst 0, 1) := by decide +kernel
theorem dlaw_715 : decode code 715 = .ok (.laload, 1) := by decide +kernel
theorem dlaw_716 : decode code 716 = .ok (.iload 6, 2) := by decide +kernel
theorem dlaw_718 : decode code 718 = .ok (.i2l, 1) := by decide +kernel
theorem dlaw_719 : decode code 719 = .ok (.lcmp, 1) := by decide +kernel
theorem dlaw_720 : decode code 720 = .ok (.ifCond .eq 5, 3) := by decide +kernel
theorem dlaw_723 : decode code 723 = .ok (.iconst 0, 1) := by decide +kernel
theorem dlaw_724 : decode code 724 = .ok (.ireturn, 1) := by decide +kernel
theorem dlaw_725 : decode code 725 = .ok (.goto 227, 3) := by decide +kernel
theorem dlaw_728 : decode code 728 = .ok (.aload_n 1, 1) := by decide +kernel
theorem dlaw_729 : decode code 729 = .ok (.aload_n 3, 1) := by decide +kernel
theorem dlaw_730 : decode code 730 = .ok (.invokestatic 97, 3) := by decide +kernel
theorem dlaw_733 : decode code 733 = .ok (.istore 5, 2) := by decide +kernel
theorem dlaw_735 : decode code 735 = .ok (.aload_n 2, 1) := by decide +kernel
theorem dlaw_736 : decode code 736 = .ok (.invokevirtual 100, 3) := by decide +kernel
theorem dlaw_739 : decode code 739 = .ok (.istore 6, 2) := by decide +kernel
theorem dlaw_741 : decode code 741 = .ok (.aload_n 2, 1) := by decide +kernel
theorem dlaw_742 : decode code 742 = .ok (.invokevirtual 68, 3) := by decide +kernel
theorem dlaw_745 : decode code 745 = .ok (.iload 5, 2) := by decide +kernel
theorem dlaw_747 : decode code 747 = .ok (.if_icmp .eq 5, 3) := by decide +kernel
theorem dlaw_750 : decode code 750 = .ok (.iconst 0, 1) := by decide +kernel
theorem dlaw_751 : decode code 751 = .ok (.ireturn, 1) := by decide +kernel
theorem dlaw_752 : decode code 752 = .ok (.iload 5, 2) := by decide +kernel
theorem dlaw_754 : decode code 754 = .ok (.ifCond .ne 15, 3) := by decide +kernel
theorem dlaw_757 : decode code 757 = .ok (.aload_n 3, 1) := by decide +kernel
theorem dlaw_758 : decode code 758 = .ok (.iconst 0, 1) := by decide +kernel
theorem dlaw_759 : decode code 759 = .ok (.laload, 1) := by decide +kernel
theorem dlaw_760 : decode code 760 = .ok (.iload 6, 2) := by decide +kernel
theorem dlaw_762 : decode code 762 = .ok (.i2l, 1) := by decide +kernel
theorem dlaw_763 : decode code 763 = .ok (.lcmp, 1) := by decide +kernel
theorem dlaw_764 : decode code 764 = .ok (.ifCond .eq 5, 3) := by decide +kernel
theorem dlaw_767 : decode code 767 = .ok (.iconst 0, 1) := by decide +kernel
theorem dlaw_768 : decode code 768 = .ok (.ireturn, 1) := by decide +kernel
theorem dlaw_769 : decode code 769 = .ok (.goto 183, 3) := by decide +kernel
theorem dlaw_772 : decode code 772 = .ok (.aload_n 1, 1) := by decide +kernel
theorem dlaw_773 : decode code 773 = .ok (.aload_n 0, 1) := by decide +kernel
theorem dlaw_774 : decode code 774 = .ok (.iload 4, 2) := by decide +kernel
theorem dlaw_776 : decode code 776 = .ok (.iconst 1, 1) := by decide +kernel
theorem dlaw_777 : decode code 777 = .ok (.iadd, 1) := by decide +kernel
theorem dlaw_778 : decode code 778 = .ok (.iaload, 1) := by decide +kernel
theorem dlaw_779 : decode code 779 = .ok (.aload_n 0, 1) := by decide +kernel
theorem dlaw_780 : decode code 780 = .ok (.iload 4, 2) := by decide +kernel
theorem dlaw_782 : decode code 782 = .ok (.iconst 2, 1) := by decide +kernel
theorem dlaw_783 : decode code 783 = .ok (.iadd, 1) := by decide +kernel
theorem dlaw_784 : decode code 784 = .ok (.iaload, 1) := by decide +kernel
theorem dlaw_785 : decode code 785 = .ok (.aload_n 3, 1) := by decide +kernel
theorem dlaw_786 : decode code 786 = .ok (.invokestatic 101, 3) := by decide +kernel
theorem dlaw_789 : decode code 789 = .ok (.istore 5, 2) := by decide +kernel
theorem dlaw_791 : decode code 791 = .ok (.aload_n 2, 1) := by decide +kernel
theorem dlaw_792 : decode code 792 = .ok (.aload_n 0, 1) := by decide +kernel
theorem dlaw_793 : decode code 793 = .ok (.iload 4, 2) := by decide +kernel
theorem dlaw_795 : decode code 795 = .ok (.iconst 1, 1) := by decide +kernel
theorem dlaw_796 : decode code 796 = .ok (.iadd, 1) := by decide +kernel
theorem dlaw_797 : decode code 797 = .ok (.iaload, 1) := by decide +kernel
theorem dlaw_798 : decode code 798 = .ok (.aload_n 0, 1) := by decide +kernel
theorem dlaw_799 : decode code 799 = .ok (.iload 4, 2) := by decide +kernel
theorem dlaw_801 : decode code 801 = .ok (.iconst 2, 1) := by decide +kernel
theorem dlaw_802 : decode code 802 = .ok (.iadd, 1) := by decide +kernel
theorem dlaw_803 : decode code 803 = .ok (.iaload, 1) := by decide +kernel
theorem dlaw_804 : decode code 804 = .ok (.invokevirtual 103, 3) := by decide +kernel
theorem dlaw_807 : decode code 807 = .ok (.istore 6, 2) := by decide +kernel
theorem dlaw_809 : decode code 809 = .ok (.aload_n 2, 1) := by decide +kernel
theorem dlaw_810 : decode code 810 = .ok (.invokevirtual 68, 3) := by decide +kernel
theorem dlaw_813 : decode code 813 = .ok (.iload 5, 2) := by decide +kernel
theorem dlaw_815 : decode code 815 = .ok (.if_icmp .eq 5, 3) := by decide +kernel
theorem dlaw_818 : decode code 818 = .ok (.iconst 0, 1) := by decide +kernel
theorem dlaw_819 : decode code 819 = .ok (.ireturn, 1) := by decide +kernel
theorem dlaw_820 : decode code 820 = .ok (.iload 5, 2) := by decide +kernel
theorem dlaw_822 : decode code 822 = .ok (.ifCond .ne 15, 3) := by decide +kernel
theorem dlaw_825 : decode code 825 = .ok (.aload_n 3, 1) := by decide +kernel
theorem dlaw_826 : decode code 826 = .ok (.iconst 0, 1) := by decide +kernel
theorem dlaw_827 : decode code 827 = .ok (.laload, 1) := by decide +kernel
theorem dlaw_828 : decode code 828 = .ok (.iload 6, 2) := by decide +kernel
theorem dlaw_830 : decode code 830 = .ok (.i2l, 1) := by decide +kernel
theorem dlaw_831 : decode code 831 = .ok (.lcmp, 1) := by decide +kernel
theorem dlaw_832 : decode code 832 = .ok (.ifCond .eq 5, 3) := by decide +kernel
theorem dlaw_835 : decode code 835 = .ok (.iconst 0, 1) := by decide +kernel
theorem dlaw_836 : decode code 836 = .ok (.ireturn, 1) := by decide +kernel
theorem dlaw_837 : decode code 837 = .ok (.goto 115, 3) := by decide +kernel
theorem dlaw_840 : decode code 840 = .ok (.aload_n 1, 1) := by decide +kernel
theorem dlaw_841 : decode code 841 = .ok (.aload_n 0, 1) := by decide +kernel
theorem dlaw_842 : decode code 842 = .ok (.iload 4, 2) := by decide +kernel
theorem dlaw_844 : decode code 844 = .ok (.iconst 1, 1) := by decide +kernel
theorem dlaw_845 : decode code 845 = .ok (.iadd, 1) := by decide +kernel
theorem dlaw_846 : decode code 846 = .ok (.iaload, 1) := by decide +kernel
theorem dlaw_847 : decode code 847 = .ok (.aload_n 3, 1) := by decide +kernel
theorem dlaw_848 : decode code 848 = .ok (.invokestatic 104, 3) := by decide +kernel
theorem dlaw_851 : decode code 851 = .ok (.istore 5, 2) := by decide +kernel
theorem dlaw_853 : decode code 853 = .ok (.aload_n 2, 1) := by decide +kernel
theorem dlaw_854 : decode code 854 = .ok (.aload_n 0, 1) := by decide +kernel
theorem dlaw_855 : decode code 855 = .ok (.iload 4, 2) := by decide +kernel
theorem dlaw_857 : decode code 857 = .ok (.iconst 1, 1) := by decide +kernel
theorem dlaw_858 : decode code 858 = .ok (.iadd, 1) := by decide +kernel
theorem dlaw_859 : decode code 859 = .ok (.iaload, 1) := by decide +kernel
theorem dlaw_860 : decode code 860 = .ok (.invokevirtual 106, 3) := by decide +kernel
theorem dlaw_863 : decode code 863 = .ok (.istore 6, 2) := by decide +kernel
theorem dlaw_865 : decode code 865 = .ok (.aload_n 2, 1) := by decide +kernel
theorem dlaw_866 : decode code 866 = .ok (.invokevirtual 68, 3) := by decide +kernel
theorem dlaw_869 : decode code 869 = .ok (.iload 5, 2) := by decide +kernel
theorem dlaw_871 : decode code 871 = .ok (.if_icmp .eq 5, 3) := by decide +kernel
theorem dlaw_874 : decode code 874 = .ok (.iconst 0, 1) := by decide +kernel
theorem dlaw_875 : decode code 875 = .ok (.ireturn, 1) := by decide +kernel
theorem dlaw_876 : decode code 876 = .ok (.iload 5, 2) := by decide +kernel
theorem dlaw_878 : decode code 878 = .ok (.ifCond .ne 15, 3) := by decide +kernel
theorem dlaw_881 : decode code 881 = .ok (.aload_n 3, 1) := by decide +kernel
theorem dlaw_882 : decode code 882 = .ok (.iconst 0, 1) := by decide +kernel
theorem dlaw_883 : decode code 883 = .ok (.laload, 1) := by decide +kernel
theorem dlaw_884 : decode code 884 = .ok (.iload 6, 2) := by decide +kernel
theorem dlaw_886 : decode code 886 = .ok (.i2l, 1) := by decide +kernel
theorem dlaw_887 : decode code 887 = .ok (.lcmp, 1) := by decide +kernel
theorem dlaw_888 : decode code 888 = .ok (.ifCond .eq 5, 3) := by decide +kernel
theorem dlaw_891 : decode code 891 = .ok (.iconst 0, 1) := by decide +kernel
theorem dlaw_892 : decode code 892 = .ok (.ireturn, 1) := by decide +kernel
theorem dlaw_893 : decode code 893 = .ok (.goto 59, 3) := by decide +kernel
theorem dlaw_896 : decode code 896 = .ok (.aload_n 1, 1) := by decide +kernel
theorem dlaw_897 : decode code 897 = .ok (.aload_n 0, 1) := by decide +kernel
theorem dlaw_898 : decode code 898 = .ok (.iload 4, 2) := by decide +kernel
theorem dlaw_900 : decode code 900 = .ok (.iconst 1, 1) := by decide +kernel
theorem dlaw_901 : decode code 901 = .ok (.iadd, 1) := by decide +kernel
theorem dlaw_902 : decode code 902 = .ok (.iaload, 1) := by decide +kernel
theorem dlaw_903 : decode code 903 = .ok (.aload_n 3, 1) := by decide +kernel
theorem dlaw_904 : decode code 904 = .ok (.invokestatic 107, 3) := by decide +kernel
theorem dlaw_907 : decode code 907 = .ok (.istore 5, 2) := by decide +kernel
theorem dlaw_909 : decode code 909 = .ok (.aload_n 2, 1) := by decide +kernel
theorem dlaw_910 : decode code 910 = .ok (.aload_n 0, 1) := by decide +kernel
theorem dlaw_911 : decode code 911 = .ok (.iload 4, 2) := by decide +kernel
theorem dlaw_913 : decode code 913 = .ok (.iconst 1, 1) := by decide +kernel
theorem dlaw_914 : decode code 914 = .ok (.iadd, 1) := by decide +kernel
theorem dlaw_915 : decode code 915 = .ok (.iaload, 1) := by decide +kernel
theorem dlaw_916 : decode code 916 = .ok (.invokevirtual 109, 3) := by decide +kernel
theorem dlaw_919 : decode code 919 = .ok (.istore 6, 2) := by decide +kernel
theorem dlaw_921 : decode code 921 = .ok (.aload_n 2, 1) := by decide +kernel
theorem dlaw_922 : decode code 922 = .ok (.invokevirtual 68, 3) := by decide +kernel
theorem dlaw_925 : decode code 925 = .ok (.iload 5, 2) := by decide +kernel
theorem dlaw_927 : decode code 927 = .ok (.if_icmp .eq 5, 3) := by decide +kernel
theorem dlaw_930 : decode code 930 = .ok (.iconst 0, 1) := by decide +kernel
theorem dlaw_931 : decode code 931 = .ok (.ireturn, 1) := by decide +kernel
theorem dlaw_932 : decode code 932 = .ok (.iload 5, 2) := by decide +kernel
theorem dlaw_934 : decode code 934 = .ok (.ifCond .ne 15, 3) := by decide +kernel
theorem dlaw_937 : decode code 937 = .ok (.aload_n 3, 1) := by decide +kernel
theorem dlaw_938 : decode code 938 = .ok (.iconst 0, 1) := by decide +kernel
theorem dlaw_939 : decode code 939 = .ok (.laload, 1) := by decide +kernel
theorem dlaw_940 : decode code 940 = .ok (.iload 6, 2) := by decide +kernel
theorem dlaw_942 : decode code 942 = .ok (.i2l, 1) := by decide +kernel
theorem dlaw_943 : decode code 943 = .ok (.lcmp, 1) := by decide +kernel
theorem dlaw_944 : decode code 944 = .ok (.ifCond .eq 5, 3) := by decide +kernel
theorem dlaw_947 : decode code 947 = .ok (.iconst 0, 1) := by decide +kernel
theorem dlaw_948 : decode code 948 = .ok (.ireturn, 1) := by decide +kernel
theorem dlaw_949 : decode code 949 = .ok (.goto 3, 3) := by decide +kernel
theorem dlaw_952 : decode code 952 = .ok (.iinc 4 4, 3) := by decide +kernel
theorem dlaw_955 : decode code 955 = .ok (.goto (-932), 3) := by decide +kernel
theorem dlaw_958 : decode code 958 = .ok (.iconst 1, 1) := by decide +kernel
theorem dlaw_959 : decode code 959 = .ok (.ireturn, 1) := by decide +kernel
end
section
/-! MY FRAME: contracts over one whole world; a method's start, its end, its calls -/
section GX
variable {S : Type} {D : va_G} {cl : List vw_C} {tys : List (ClassId × FieldType)}
/-- what a method finds: its arguments, and a world -/
def gx_Pc (D : va_G) (cl : List vw_C) (tys : List (ClassId × FieldType)) (w : va_W) (sz : Nat) (av : List Value) : Array Value → State → Prop :=
  va_Pc av (fun U => U.heap.size = sz ∧ va_P D cl w U.heap ∧ va_K D cl tys U ∧ va_D (fun _ => True) w)
/-- what a method leaves -/
def gx_B (D : va_G) (cl : List vw_C) (tys : List (ClassId × FieldType)) (wf : S → va_W) (A : Nat → Prop) (u : S) (t : State) : Prop :=
  va_P D cl (wf u) t.heap ∧ va_K D cl tys t ∧ va_D A (wf u)
/-- a method that answers an int and moves its world -/
def gx_Mi (l : Launch) (y : MethodName) (ws : List Cond) (rm : Room) (D : va_G) (cl : List vw_C) (tys : List (ClassId × FieldType)) (wf : S → va_W) (σ : S) (av : List Value) (post : Int32 → S → Prop) : Prop :=
  ∀ sz : Nat, Met l y ws rm (gx_Pc D cl tys (wf σ) sz av) (va_Qi post (gx_B D cl tys wf (va_A (wf σ) sz)) (va_A (wf σ) sz)) rm.cells rm.slots (va_A (wf σ) sz)
/-- one that answers nothing -/
def gx_Mv (l : Launch) (y : MethodName) (ws : List Cond) (rm : Room) (D : va_G) (cl : List vw_C) (tys : List (ClassId × FieldType)) (wf : S → va_W) (σ : S) (av : List Value) (post : S → Prop) : Prop :=
  ∀ sz : Nat, Met l y ws rm (gx_Pc D cl tys (wf σ) sz av) (va_Qv post (gx_B D cl tys wf (va_A (wf σ) sz)) (va_A (wf σ) sz)) rm.cells rm.slots (va_A (wf σ) sz)
/-- one that only reads -/
def gx_Mp (l : Launch) (y : MethodName) (ws : List Cond) (rm : Room) (D : va_G) (cl : List vw_C) (tys : List (ClassId × FieldType)) (w : va_W) (av : List Value) (r : Int32) : Prop :=
  ∀ sz : Nat, Met l y ws rm (gx_Pc D cl tys w sz av) (QcRead r) 0 0 (fun _ => False)
/-- the machine and the method's own words -/
def gx_E (p : Program) (s : State) (m : MethodId) (args : Array Value) (meth : Method) (c : Code) (cc : ByteArray) (ret : Option FieldType) (nL : Nat) (ws : List Cond) (y : MethodName) : Prop :=
  p.tables.exec = Jvm.exec ∧ c.code = cc ∧ meth.sig.returnType = ret ∧ c.maxLocals = nL ∧ (∀ w ∈ ws, w.before args s = true) ∧ s.vm.findClass y.cls = some m.cls ∧ meth.locks = false ∧ meth.name = y.name
theorem gx_blind {w : va_W} {sz : Nat} {av : List Value} : FrameBlind (gx_Pc D cl tys w sz av) := fun a U g mk q => by
  obtain ⟨q0, q1, qP, qK, qD⟩ := q
  exact ⟨q0, q1, qP, va_K.moved (u := U) (U := U.calling g mk a) (Vm.Alike.refl U.vm) qK, qD⟩
theorem gx_pre {s : State} {H : Heap} {A : Nat → Prop} {w : va_W} {av : List Value} (hP : va_P D cl w H) (hK : va_K D cl tys s) (hD : va_D A w) : ∀ U : State, U.heap = H → s.WarmedH U.vm → gx_Pc D cl tys w H.size av av.toArray U :=
  fun U hU hW => ⟨rfl, by rw [hU], by rw [hU]; exact hP, va_K.moved hW.alike hK, hD.weaken (fun _ _ _ _ => trivial)⟩
theorem gx_in {A : Nat → Prop} {w : va_W} {H0 H : Heap} {locs : List Loc} (hD : va_D A w) (hS : va_S A H0 H locs) (hA : ∀ q : Nat, H0.size ≤ q → A q) : ∀ q : Nat, va_A w H.size q → A q := by
  intro q h
  rcases h with ⟨k, e, h⟩ | h
  · exact hD.2 k (q, e) h
  · exact hA q (Nat.le_trans hS.1 h)
theorem gx_fm {α β : Type} {f : α → Option β} : ∀ {is : List α} {wc : List β}, is.map f = wc.map some → is.filterMap f = wc
  | [], [], _ => rfl
  | [], _ :: _, h => by simp at h
  | _ :: _, [], h => by simp at h
  | i :: is, a :: wc, h => by
    simp only [List.map_cons, List.cons.injEq] at h
    rw [List.filterMap_cons, h.1, gx_fm h.2]
theorem gx_Mi.of {l : Launch} {y : MethodName} {ws ws' : List Cond} {rm : Room} {wf : S → va_W} {σ : S} {av : List Value} {post : Int32 → S → Prop} {cc : ByteArray} {maxL : Nat} {ret : Option FieldType}
    (hy : plainName y.cls = true) (hw : ws = Cond.code y cc maxL ret :: ws') (hlen : (lg_sl av).length ≤ maxL)
    (body : ∀ (p : Program) (e : Env) (s : State) (m : MethodId) (args : Array Value) (below : List Frame) (meth : Method) (c : Code) (ls : Array Slot) (A : Nat → Prop),
      gx_E p s m args meth c cc ret maxL ws y → (∀ q : Nat, s.heap.size ≤ q → A q) → va_K D cl tys s → va_P D cl (wf σ) s.heap → va_D A (wf σ) → va_S A s.heap s.heap [] → lv_has ls maxL (lv_args 0 av) →
      W p l e rm s m args below meth c s.heap [] 0 0 (MQ below (va_Qi post (gx_B D cl tys wf A) A) args s rm.cells rm.slots A) (F0 m 0 ls [])) : gx_Mi l y ws rm D cl tys wf σ av post := by
  intro sz
  refine Met.ofW (cc := cc) (maxL := maxL) (ret := ret) hy hw ?_
  intro p e s m args below meth c s₁ B hml hv
  obtain ⟨rfl, hsz, hP, hK, hD0⟩ := hv
  subst hsz
  have hl := lv_entry av (n := maxL) hlen
  rw [lg_entry_eq]
  exact body p e s m _ below meth c _ _ ⟨B.exec, B.bytes, B.returns, hml, atoms_spec (ws := ws) B.pre, findClass_of_methodNamed B.named, B.notSynchronized, (name_of_methodNamed B.named B.method).1⟩ (fun q h => Or.inr h) hK hP hD0.self va_S.rf hl
theorem gx_Mv.of {l : Launch} {y : MethodName} {ws ws' : List Cond} {rm : Room} {wf : S → va_W} {σ : S} {av : List Value} {post : S → Prop} {cc : ByteArray} {maxL : Nat}
    (hy : plainName y.cls = true) (hw : ws = Cond.code y cc maxL none :: ws') (hlen : (lg_sl av).length ≤ maxL)
    (body : ∀ (p : Program) (e : Env) (s : State) (m : MethodId) (args : Array Value) (below : List Frame) (meth : Method) (c : Code) (ls : Array Slot) (A : Nat → Prop),
      gx_E p s m args meth c cc none maxL ws y → (∀ q : Nat, s.heap.size ≤ q → A q) → va_K D cl tys s → va_P D cl (wf σ) s.heap → va_D A (wf σ) → va_S A s.heap s.heap [] → lv_has ls maxL (lv_args 0 av) →
      W p l e rm s m args below meth c s.heap [] 0 0 (MQ below (va_Qv post (gx_B D cl tys wf A) A) args s rm.cells rm.slots A) (F0 m 0 ls [])) : gx_Mv l y ws rm D cl tys wf σ av post := by
  intro sz
  refine Met.ofW (cc := cc) (maxL := maxL) (ret := none) hy hw ?_
  intro p e s m args below meth c s₁ B hml hv
  obtain ⟨rfl, hsz, hP, hK, hD0⟩ := hv
  subst hsz
  have hl := lv_entry av (n := maxL) hlen
  rw [lg_entry_eq]
  exact body p e s m _ below meth c _ _ ⟨B.exec, B.bytes, B.returns, hml, atoms_spec (ws := ws) B.pre, findClass_of_methodNamed B.named, B.notSynchronized, (name_of_methodNamed B.named B.method).1⟩ (fun q h => Or.inr h) hK hP hD0.self va_S.rf hl
theorem gx_Mp.of {l : Launch} {y : MethodName} {ws ws' : List Cond} {rm : Room} {w : va_W} {av : List Value} {r : Int32} {cc : ByteArray} {maxL : Nat} {ret : Option FieldType}
    (hy : plainName y.cls = true) (hw : ws = Cond.code y cc maxL ret :: ws') (hlen : (lg_sl av).length ≤ maxL)
    (body : ∀ (p : Program) (e : Env) (s : State) (m : MethodId) (args : Array Value) (below : List Frame) (meth : Method) (c : Code) (ls : Array Slot),
      gx_E p s m args meth c cc ret maxL ws y → va_K D cl tys s → va_P D cl w s.heap → va_D (fun _ => True) w → lv_has ls maxL (lv_args 0 av) →
      W p l e rm s m args below meth c s.heap [] 0 0 (MQ below (QcRead r) args s 0 0 (fun _ => False)) (F0 m 0 ls [])) : gx_Mp l y ws rm D cl tys w av r := by
  intro sz
  refine Met.ofW (cc := cc) (maxL := maxL) (ret := ret) hy hw ?_
  intro p e s m args below meth c s₁ B hml hv
  obtain ⟨rfl, hsz, hP, hK, hD0⟩ := hv
  have hl := lv_entry av (n := maxL) hlen
  rw [lg_entry_eq]
  exact body p e s m _ below meth c _ ⟨B.exec, B.bytes, B.returns, hml, atoms_spec (ws := ws) B.pre, findClass_of_methodNamed B.named, B.notSynchronized, (name_of_methodNamed B.named B.method).1⟩ hK hP hD0 hl
section GXW
variable {p : Program} {l : Launch} {e : Env} {R : Room} {s : State} {m : MethodId} {args : Array Value} {below : List Frame} {meth : Method} {c : Code} {H : Heap} {locs : List Loc} {cells slots : Nat} {Q : State → Prop}
variable {cc : ByteArray} {nL : Nat} {ws : List Cond} {y : MethodName} {A : Nat → Prop} {pc : Nat} {ls : Array Slot} {rest : List Value}
/-- the top of the stack under another name -/
theorem gx_top {x z : Int32} (h : x = z) (k : W p l e R s m args below meth c H locs cells slots Q (F0 m pc ls (.int z :: rest))) : W p l e R s m args below meth c H locs cells slots Q (F0 m pc ls (.int x :: rest)) := h ▸ k
theorem gx_stk {st st' : List Value} (h : st = st') (k : W p l e R s m args below meth c H locs cells slots Q (F0 m pc ls st')) : W p l e R s m args below meth c H locs cells slots Q (F0 m pc ls st) := h ▸ k
theorem gx_iret {wf : S → va_W} {post : Int32 → S → Prop} (E : gx_E p s m args meth c cc (some .int) nL ws y) (hK : va_K D cl tys s) {u : S} {r : Int32} (hP : va_P D cl (wf u) H) (hD : va_D A (wf u)) (hS : va_S A s.heap H locs) (hq : post r u) (hdg : decode cc pc = .ok (.ireturn, 1)) :
    W p l e R s m args below meth c H locs cells slots (MQ below (va_Qi post (gx_B D cl tys wf A) A) args s cells slots A) (F0 m pc ls [.int r]) :=
  W.iret (v := r) E.1 E.2.1 E.2.2.1 (fun t ht hW => ⟨⟨r, u, rfl, hq, by rw [ht]; exact hP, va_K.moved hW.alike hK, hD⟩, hS.F ht⟩) hS.2.2 hdg (hlocks := E.2.2.2.2.2.2.1)
theorem gx_vret {wf : S → va_W} {post : S → Prop} (E : gx_E p s m args meth c cc none nL ws y) (hK : va_K D cl tys s) {u : S} (hP : va_P D cl (wf u) H) (hD : va_D A (wf u)) (hS : va_S A s.heap H locs) (hq : post u) (hdg : decode cc pc = .ok (.return_, 1)) :
    W p l e R s m args below meth c H locs cells slots (MQ below (va_Qv post (gx_B D cl tys wf A) A) args s cells slots A) (F0 m pc ls []) :=
  W.vret E.1 E.2.1 E.2.2.1 (fun t ht hW => ⟨⟨u, rfl, hq, by rw [ht]; exact hP, va_K.moved hW.alike hK, hD⟩, hS.F ht⟩) hS.2.2 hdg (hlocks := E.2.2.2.2.2.2.1)
/-- the end of one that only reads: an int -/
theorem gx_pret {r v : Int32} (E : gx_E p s m args meth c cc (some .int) nL ws y) (hv : v = r) (hdg : decode cc pc = .ok (.ireturn, 1)) :
    W p l e R s m args below meth c s.heap [] 0 0 (MQ below (QcRead r) args s 0 0 (fun _ => False)) (F0 m pc ls [.int v]) :=
  W.iret (v := v) E.1 E.2.1 E.2.2.1 (fun t ht _ => ⟨by rw [hv], ht⟩) (fun q h => by cases h) hdg (hlocks := E.2.2.2.2.2.2.1)
/-- a truth -/
theorem gx_zret {r v : Int32} (E : gx_E p s m args meth c cc (some .boolean) nL ws y) (hn : narrow .boolean (.int v) = .int v) (hv : v = r) (hdg : decode cc pc = .ok (.ireturn, 1)) :
    W p l e R s m args below meth c s.heap [] 0 0 (MQ below (QcRead r) args s 0 0 (fun _ => False)) (F0 m pc ls [.int v]) :=
  W.zret (v := v) E.1 E.2.1 E.2.2.1 hn (fun t ht _ => ⟨by rw [hv], ht⟩) (fun q h => by cases h) hdg (hlocks := E.2.2.2.2.2.2.1)
variable {yc : MethodName} {bytes : ByteArray} {maxL n index : Nat} {retc : Option FieldType} {wsc : List Cond} {rmc : Room} {C : String} {b : Nat} {As : List Value} {ret : Option FieldType}
/-- a call of one that only reads, on an object -/
theorem gx_callp {w : va_W} {r : Int32} (E : gx_E p s m args meth c cc ret nL ws y) (hM : gx_Mp l yc wsc rmc D cl tys w (.ref b :: As) r) (cw : CallW R s args y.cls C index yc bytes maxL retc wsc rmc 0 0 n)
    (hK : va_K D cl tys s) (hP : va_P D cl w H) (hD : va_D A w) (hrv : ∃ cell : Cell, H[b]? = some cell ∧ cell.vm.isStatics = false ∧ s.vm.findClass C = some cell.cls) (hl : ls.size = nL) {st : List Value} (hst : st = As.reverse ++ .ref b :: rest) (hn : As.length = n) (hW : (rest.map fun v => v.category).sum ≤ 8)
    (hf : cells ≤ R.cells ∧ slots ≤ R.slots) (hdg : decode cc pc = .ok (.invokevirtual index, 3)) (kk : W p l e R s m args below meth c H locs cells slots Q (F0 m (pc + 3) ls (.int r :: rest))) : W p l e R s m args below meth c H locs cells slots Q (F0 m pc ls st) :=
  W.callR (W.runV (g := F0 m pc ls st) (As := As) (rest := rest) ⟨E.1, E.2.1, E.2.2.2.1, E.2.2.2.2.2.1, E.2.2.2.2.1⟩ (hM H.size) cw ⟨gx_blind, hrv, gx_pre hP hK hD⟩ rfl hn hl hst (lv_room hW) hdg hf) kk
/-- the same, a static one -/
theorem gx_callps {w : va_W} {r : Int32} (E : gx_E p s m args meth c cc ret nL ws y) (hM : gx_Mp l yc wsc rmc D cl tys w As r) (cw : CallB R s args y.cls index yc bytes maxL retc wsc rmc 0 0 n ∧ (Cond.static yc).before args s = true)
    (hK : va_K D cl tys s) (hP : va_P D cl w H) (hD : va_D A w) (hl : ls.size = nL) {st : List Value} (hst : st = As.reverse ++ rest) (hn : As.length = n) (hW : (rest.map fun v => v.category).sum ≤ 8)
    (hf : cells ≤ R.cells ∧ slots ≤ R.slots) (hdg : decode cc pc = .ok (.invokestatic index, 3)) (kk : W p l e R s m args below meth c H locs cells slots Q (F0 m (pc + 3) ls (.int r :: rest))) : W p l e R s m args below meth c H locs cells slots Q (F0 m pc ls st) :=
  W.callR (W.runS (g := F0 m pc ls st) (As := As) (rest := rest) ⟨E.1, E.2.1, E.2.2.2.1, E.2.2.2.2.2.1, E.2.2.2.2.1⟩ (hM H.size) cw ⟨gx_blind, gx_pre hP hK hD⟩ rfl hn hl hst (lv_room hW) hdg hf) kk
/-- a call that moves the whole world and answers an int -/
theorem gx_calli {wf : S → va_W} {σ : S} {post : Int32 → S → Prop} (E : gx_E p s m args meth c cc ret nL ws y) (hM : gx_Mi l yc wsc rmc D cl tys wf σ (.ref b :: As) post) (cw : CallW R s args y.cls C index yc bytes maxL retc wsc rmc rmc.cells rmc.slots n)
    (hK : va_K D cl tys s) (hP : va_P D cl (wf σ) H) (hD : va_D A (wf σ)) (hS : va_S A s.heap H locs) (hA : ∀ q : Nat, s.heap.size ≤ q → A q) (hrv : ∃ cell : Cell, H[b]? = some cell ∧ cell.vm.isStatics = false ∧ s.vm.findClass C = some cell.cls) (hl : ls.size = nL) {st : List Value} (hst : st = As.reverse ++ .ref b :: rest) (hn : As.length = n) (hW : (rest.map fun v => v.category).sum ≤ 8)
    (hf : cells + rmc.cells ≤ R.cells ∧ slots + rmc.slots ≤ R.slots) (hdg : decode cc pc = .ok (.invokevirtual index, 3))
    (kk : ∀ (r : Int32) (u : S) (H1 : Heap) (locs1 : List Loc), post r u → va_P D cl (wf u) H1 → va_D A (wf u) → va_S A s.heap H1 locs1 → W p l e R s m args below meth c H1 locs1 (cells + rmc.cells) (slots + rmc.slots) Q (F0 m (pc + 3) ls (.int r :: rest))) : W p l e R s m args below meth c H locs cells slots Q (F0 m pc ls st) := by
  have hF := gx_in hD hS hA
  refine va_calli (va_runV (g := F0 m pc ls st) (As := As) (rest := rest) ⟨E.1, E.2.1, E.2.2.2.1, E.2.2.2.2.2.1, E.2.2.2.2.1⟩ (hM H.size) cw ⟨gx_blind, hrv, gx_pre hP hK hD⟩ rfl hn hl hst (lv_room hW) hdg hf) hS (fun q _ h => hF q h) hF (fun r u t H1 locs1 ht hvm hw hB hz1 hk1 hS1 => ?_)
  obtain ⟨hP1, hK1, hD1⟩ := hB
  rw [ht] at hP1
  exact kk r u H1 locs1 hw hP1 (hD1.weaken (fun _ q _ h => hF q.1 h)) hS1
theorem gx_callv {wf : S → va_W} {σ : S} {post : S → Prop} (E : gx_E p s m args meth c cc ret nL ws y) (hM : gx_Mv l yc wsc rmc D cl tys wf σ (.ref b :: As) post) (cw : CallW R s args y.cls C index yc bytes maxL retc wsc rmc rmc.cells rmc.slots n)
    (hK : va_K D cl tys s) (hP : va_P D cl (wf σ) H) (hD : va_D A (wf σ)) (hS : va_S A s.heap H locs) (hA : ∀ q : Nat, s.heap.size ≤ q → A q) (hrv : ∃ cell : Cell, H[b]? = some cell ∧ cell.vm.isStatics = false ∧ s.vm.findClass C = some cell.cls) (hl : ls.size = nL) {st : List Value} (hst : st = As.reverse ++ .ref b :: rest) (hn : As.length = n) (hW : (rest.map fun v => v.category).sum ≤ 8)
    (hf : cells + rmc.cells ≤ R.cells ∧ slots + rmc.slots ≤ R.slots) (hdg : decode cc pc = .ok (.invokevirtual index, 3))
    (kk : ∀ (u : S) (H1 : Heap) (locs1 : List Loc), post u → va_P D cl (wf u) H1 → va_D A (wf u) → va_S A s.heap H1 locs1 → W p l e R s m args below meth c H1 locs1 (cells + rmc.cells) (slots + rmc.slots) Q (F0 m (pc + 3) ls rest)) : W p l e R s m args below meth c H locs cells slots Q (F0 m pc ls st) := by
  have hF := gx_in hD hS hA
  refine va_callv (va_runV (g := F0 m pc ls st) (As := As) (rest := rest) ⟨E.1, E.2.1, E.2.2.2.1, E.2.2.2.2.2.1, E.2.2.2.2.1⟩ (hM H.size) cw ⟨gx_blind, hrv, gx_pre hP hK hD⟩ rfl hn hl hst (lv_room hW) hdg hf) hS (fun q _ h => hF q h) hF (fun u t H1 locs1 ht hvm hw hB hz1 hk1 hS1 => ?_)
  obtain ⟨hP1, hK1, hD1⟩ := hB
  rw [ht] at hP1
  exact kk u H1 locs1 hw hP1 (hD1.weaken (fun _ q _ h => hF q.1 h)) hS1
/-- a call of one that only reads, on a part of the world -/
theorem gx_callpS {w wc : va_W} {r : Int32} (E : gx_E p s m args meth c cc ret nL ws y) (hM : gx_Mp l yc wsc rmc D cl tys wc (.ref b :: As) r) (cw : CallW R s args y.cls C index yc bytes maxL retc wsc rmc 0 0 n)
    (isC : List Nat) (hC : isC.map (fun i => w[i]?) = wc.map some) (hnC : va_nd isC = true)
    (hK : va_K D cl tys s) (hP : va_P D cl w H) (hD : va_D A w) (hrv : ∃ cell : Cell, H[b]? = some cell ∧ cell.vm.isStatics = false ∧ s.vm.findClass C = some cell.cls) (hl : ls.size = nL) {st : List Value} (hst : st = As.reverse ++ .ref b :: rest) (hn : As.length = n) (hW : (rest.map fun v => v.category).sum ≤ 8)
    (hf : cells ≤ R.cells ∧ slots ≤ R.slots) (hdg : decode cc pc = .ok (.invokevirtual index, 3)) (kk : W p l e R s m args below meth c H locs cells slots Q (F0 m (pc + 3) ls (.int r :: rest))) : W p l e R s m args below meth c H locs cells slots Q (F0 m pc ls st) :=
  gx_callp E hM cw hK (hP.sub isC (gx_fm hC)) (hD.sub isC hnC hC) hrv hl hst hn hW hf hdg kk
/-- a call that moves a part of the world and answers an int -/
theorem gx_calliS {wf : S → va_W} {σ : S} {post : Int32 → S → Prop} {w wr : va_W} (E : gx_E p s m args meth c cc ret nL ws y) (hM : gx_Mi l yc wsc rmc D cl tys wf σ (.ref b :: As) post) (cw : CallW R s args y.cls C index yc bytes maxL retc wsc rmc rmc.cells rmc.slots n)
    (isC isR : List Nat) (hC : isC.map (fun i => w[i]?) = (wf σ).map some) (hR : isR.map (fun i => w[i]?) = wr.map some) (hnC : va_nd isC = true) (hnR : va_nd isR = true) (hdis : ∀ i ∈ isR, i ∉ isC)
    (hK : va_K D cl tys s) (hP : va_P D cl w H) (hD : va_D A w) (hS : va_S A s.heap H locs) (hA : ∀ q : Nat, s.heap.size ≤ q → A q) (hrv : ∃ cell : Cell, H[b]? = some cell ∧ cell.vm.isStatics = false ∧ s.vm.findClass C = some cell.cls) (hl : ls.size = nL) {st : List Value} (hst : st = As.reverse ++ .ref b :: rest) (hn : As.length = n) (hW : (rest.map fun v => v.category).sum ≤ 8)
    (hf : cells + rmc.cells ≤ R.cells ∧ slots + rmc.slots ≤ R.slots) (hdg : decode cc pc = .ok (.invokevirtual index, 3))
    (kk : ∀ (r : Int32) (u : S) (H1 : Heap) (locs1 : List Loc), post r u → va_P D cl (wr ++ wf u) H1 → va_D A (wr ++ wf u) → va_S A s.heap H1 locs1 → W p l e R s m args below meth c H1 locs1 (cells + rmc.cells) (slots + rmc.slots) Q (F0 m (pc + 3) ls (.int r :: rest))) : W p l e R s m args below meth c H locs cells slots Q (F0 m pc ls st) := by
  have hPc := hP.sub isC (gx_fm hC)
  have hDc := hD.sub isC hnC hC
  have hF := gx_in hDc hS hA
  refine va_calli (va_runV (g := F0 m pc ls st) (As := As) (rest := rest) ⟨E.1, E.2.1, E.2.2.2.1, E.2.2.2.2.2.1, E.2.2.2.2.1⟩ (hM H.size) cw ⟨gx_blind, hrv, gx_pre hPc hK hDc⟩ rfl hn hl hst (lv_room hW) hdg hf) hS (fun q _ h => hF q h) hF (fun r u t H1 locs1 ht hvm hw hB hz1 hk1 hS1 => ?_)
  obtain ⟨hP1, hK1, hD1⟩ := hB
  rw [ht] at hP1
  obtain ⟨hP2, hD2⟩ := va_join (wr := wr) (w1 := wf u) hP hD isC isR hC hR hnR hdis hk1 hF hP1 hD1
  exact kk r u H1 locs1 hw hP2 hD2 hS1
theorem gx_callvS {wf : S → va_W} {σ : S} {post : S → Prop} {w wr : va_W} (E : gx_E p s m args meth c cc ret nL ws y) (hM : gx_Mv l yc wsc rmc D cl tys wf σ (.ref b :: As) post) (cw : CallW R s args y.cls C index yc bytes maxL retc wsc rmc rmc.cells rmc.slots n)
    (isC isR : List Nat) (hC : isC.map (fun i => w[i]?) = (wf σ).map some) (hR : isR.map (fun i => w[i]?) = wr.map some) (hnC : va_nd isC = true) (hnR : va_nd isR = true) (hdis : ∀ i ∈ isR, i ∉ isC)
    (hK : va_K D cl tys s) (hP : va_P D cl w H) (hD : va_D A w) (hS : va_S A s.heap H locs) (hA : ∀ q : Nat, s.heap.size ≤ q → A q) (hrv : ∃ cell : Cell, H[b]? = some cell ∧ cell.vm.isStatics = false ∧ s.vm.findClass C = some cell.cls) (hl : ls.size = nL) {st : List Value} (hst : st = As.reverse ++ .ref b :: rest) (hn : As.length = n) (hW : (rest.map fun v => v.category).sum ≤ 8)
    (hf : cells + rmc.cells ≤ R.cells ∧ slots + rmc.slots ≤ R.slots) (hdg : decode cc pc = .ok (.invokevirtual index, 3))
    (kk : ∀ (u : S) (H1 : Heap) (locs1 : List Loc), post u → va_P D cl (wr ++ wf u) H1 → va_D A (wr ++ wf u) → va_S A s.heap H1 locs1 → W p l e R s m args below meth c H1 locs1 (cells + rmc.cells) (slots + rmc.slots) Q (F0 m (pc + 3) ls rest)) : W p l e R s m args below meth c H locs cells slots Q (F0 m pc ls st) := by
  have hPc := hP.sub isC (gx_fm hC)
  have hDc := hD.sub isC hnC hC
  have hF := gx_in hDc hS hA
  refine va_callv (va_runV (g := F0 m pc ls st) (As := As) (rest := rest) ⟨E.1, E.2.1, E.2.2.2.1, E.2.2.2.2.2.1, E.2.2.2.2.1⟩ (hM H.size) cw ⟨gx_blind, hrv, gx_pre hPc hK hDc⟩ rfl hn hl hst (lv_room hW) hdg hf) hS (fun q _ h => hF q h) hF (fun u t H1 locs1 ht hvm hw hB hz1 hk1 hS1 => ?_)
  obtain ⟨hP1, hK1, hD1⟩ := hB
  rw [ht] at hP1
  obtain ⟨hP2, hD2⟩ := va_join (wr := wr) (w1 := wf u) hP hD isC isR hC hR hnR hdis hk1 hF hP1 hD1
  exact kk u H1 locs1 hw hP2 hD2 hS1
end GXW
end GX
end
section
/-! THE CLASS'S STATE, and a contract over a part of a world lifted to the whole -/
section LIFT
variable {S S' : Type} {D : va_G} {cl : List vw_C} {tys : List (ClassId × FieldType)} {l : Launch} {y : MethodName} {ws : List Cond} {rm : Room} {av : List Value}
theorem gx_Mp.lift {w wc : va_W} {r : Int32} (h : gx_Mp l y ws rm D cl tys wc av r) (isC : List Nat) (hC : isC.map (fun i => w[i]?) = wc.map some) (hnC : va_nd isC = true) : gx_Mp l y ws rm D cl tys w av r :=
  fun sz p e a1 a2 a3 s m args below a4 a5 hP a6 => h sz p e a1 a2 a3 s m args below a4 a5 ⟨hP.1, hP.2.1, hP.2.2.1.sub isC (gx_fm hC), hP.2.2.2.1, hP.2.2.2.2.sub isC hnC hC⟩ a6
theorem gx_lift_A {w wc : va_W} {sz : Nat} {isC : List Nat} (hC : isC.map (fun i => w[i]?) = wc.map some) {q : Nat} (h : va_A wc sz q) : va_A w sz q := by
  rcases h with ⟨k, e, hk⟩ | h
  · have h1 : (wc.map some)[k]? = some (some (q, e)) := by rw [List.getElem?_map, hk]; rfl
    rw [← hC, List.getElem?_map] at h1
    cases hi : isC[k]? with
    | none => rw [hi] at h1; cases h1
    | some i => rw [hi] at h1; exact Or.inl ⟨i, e, by simpa using h1⟩
  · exact Or.inr h
theorem gx_lift_join {A0 : Nat → Prop} {ws0 wc wr w1 w2 : va_W} {sz : Nat} {H0 H1 : Heap} (hz : H0.size = sz) (hP : va_P D cl ws0 H0) (hD : va_D A0 ws0) (isC isR isN : List Nat) (hC : isC.map (fun i => ws0[i]?) = wc.map some) (hR : isR.map (fun i => ws0[i]?) = wr.map some) (hn : va_nd isR = true) (hdis : ∀ i ∈ isR, i ∉ isC) (hnN : va_nd isN = true)
    (hN : isN.map (fun i => (wr ++ w1)[i]?) = w2.map some) (hk : ∀ q : Nat, q < H0.size → ¬ va_A wc sz q → H1[q]? = H0[q]?) (hF : ∀ q, va_A wc sz q → A0 q) (hP1 : va_P D cl w1 H1) (hD1 : va_D (va_A wc sz) w1) : va_P D cl w2 H1 ∧ va_D A0 w2 := by
  subst hz
  obtain ⟨h1, h2⟩ := va_join hP hD isC isR hC hR hn hdis hk hF hP1 hD1
  exact ⟨h1.sub isN (gx_fm hN), h2.sub isN hnN hN⟩
theorem gx_Mi.lift {wfc : S' → va_W} {wf : S → va_W} {σc : S'} {σ : S} {wr : va_W} {postc : Int32 → S' → Prop} {post : Int32 → S → Prop} (h : gx_Mi l y ws rm D cl tys wfc σc av postc) (up : S' → S) (isC isR isN : List Nat)
    (hC : isC.map (fun i => (wf σ)[i]?) = (wfc σc).map some) (hR : isR.map (fun i => (wf σ)[i]?) = wr.map some) (hnC : va_nd isC = true) (hn : va_nd isR = true) (hdis : ∀ i ∈ isR, i ∉ isC) (hnN : va_nd isN = true)
    (hN : ∀ u : S', isN.map (fun i => (wr ++ wfc u)[i]?) = (wf (up u)).map some) (hq : ∀ r u, postc r u → post r (up u)) : gx_Mi l y ws rm D cl tys wf σ av post := by
  intro sz p e a1 a2 a3 s m args below a4 a5 hP a6
  obtain ⟨n, o, b1, b2, b3, ⟨⟨r, u, c1, c2, c3, c4, c5⟩, hF⟩, L, d1, d2⟩ := h sz p e a1 a2 a3 s m args below a4 a5 ⟨hP.1, hP.2.1, hP.2.2.1.sub isC (gx_fm hC), hP.2.2.2.1, hP.2.2.2.2.sub isC hnC hC⟩ a6
  have hFa : ∀ q, va_A (wfc σc) sz q → va_A (wf σ) sz q := fun q h => gx_lift_A hC h
  obtain ⟨k1, k2⟩ := gx_lift_join (w2 := wf (up u)) hP.2.1 hP.2.2.1 (hP.2.2.2.2.self (sz := sz)) isC isR isN hC hR hn hdis hnN (hN u) hF.2 hFa c3 c5
  exact ⟨n, o, b1, b2, b3, ⟨⟨r, up u, c1, hq r u c2, k1, c4, k2⟩, hF.1, fun q h1 h2 => hF.2 q h1 (fun z => h2 (hFa q z))⟩, L, d1, fun q hq => hFa _ (d2 q hq)⟩
theorem gx_Mv.lift {wfc : S' → va_W} {wf : S → va_W} {σc : S'} {σ : S} {wr : va_W} {postc : S' → Prop} {post : S → Prop} (h : gx_Mv l y ws rm D cl tys wfc σc av postc) (up : S' → S) (isC isR isN : List Nat)
    (hC : isC.map (fun i => (wf σ)[i]?) = (wfc σc).map some) (hR : isR.map (fun i => (wf σ)[i]?) = wr.map some) (hnC : va_nd isC = true) (hn : va_nd isR = true) (hdis : ∀ i ∈ isR, i ∉ isC) (hnN : va_nd isN = true)
    (hN : ∀ u : S', isN.map (fun i => (wr ++ wfc u)[i]?) = (wf (up u)).map some) (hq : ∀ u, postc u → post (up u)) : gx_Mv l y ws rm D cl tys wf σ av post := by
  intro sz p e a1 a2 a3 s m args below a4 a5 hP a6
  obtain ⟨n, o, b1, b2, b3, ⟨⟨u, c1, c2, c3, c4, c5⟩, hF⟩, L, d1, d2⟩ := h sz p e a1 a2 a3 s m args below a4 a5 ⟨hP.1, hP.2.1, hP.2.2.1.sub isC (gx_fm hC), hP.2.2.2.1, hP.2.2.2.2.sub isC hnC hC⟩ a6
  have hFa : ∀ q, va_A (wfc σc) sz q → va_A (wf σ) sz q := fun q h => gx_lift_A hC h
  obtain ⟨k1, k2⟩ := gx_lift_join (w2 := wf (up u)) hP.2.1 hP.2.2.1 (hP.2.2.2.2.self (sz := sz)) isC isR isN hC hR hn hdis hnN (hN u) hF.2 hFa c3 c5
  exact ⟨n, o, b1, b2, b3, ⟨⟨up u, c1, hq u c2, k1, c4, k2⟩, hF.1, fun q h1 h2 => hF.2 q h1 (fun z => h2 (hFa q z))⟩, L, d1, fun q hq => hFa _ (d2 q hq)⟩
end LIFT
/-- rooms by depth -/
def gR (d : Nat) : Room := { frames := d, cells := 0, slots := 0, locals := 40 * d }
def gRc (d k n : Nat) : Room := { frames := d, cells := k, slots := n, locals := 40 * d }
section CW
variable {R : Room} {s : State} {args : Array Value} {own : String} {index maxL n : Nat} {y : MethodName} {bytes : ByteArray} {ret : Option FieldType} {rm : Room} {x : Cond}
theorem gx_cwV (hts : ∀ w ∈ x :: gW, w.before args s = true) {C : String} (hl : Cond.methodLink own index y ∈ gW) (hc : Cond.code y bytes maxL ret ∈ gW) (hi : Cond.instanceMethod y ∈ gW) (hs : Cond.selects C y y ∈ gW) (hz : Cond.initialized C ∈ gW)
    (hd : y.cls = C ∧ y.cls ≠ "java/lang/invoke/MethodHandle" ∧ y.cls ≠ "java/lang/invoke/VarHandle" ∧ (parseMethodDescriptor y.desc).map (fun d => d.parameters.length) = some n) (hR : rm.frames + 1 ≤ R.frames ∧ 8 + (maxL + 11) + rm.locals ≤ R.locals) :
    CallW R s args own C index y bytes maxL ret (.code y bytes maxL ret :: gW) rm rm.cells rm.slots n :=
  cwV n hts (fun w h => by
    simp only [wsV, List.mem_append, List.mem_cons, List.not_mem_nil, or_false] at h
    rcases h with (h | h | h | h) | h | h
    · rw [h]; exact gm_self _ hl
    · rw [h]; exact gm_self _ hi
    · rw [h]; exact gm_self _ hs
    · rw [h]; exact gm_self _ hz
    · rw [h]; exact gm_self _ hc
    · exact gm_self _ h) rfl rfl rfl hd hR
theorem gx_cwS (hts : ∀ w ∈ x :: gW, w.before args s = true) {C : String} (hl : Cond.methodLink own index y ∈ gW) (hc : Cond.code y bytes maxL ret ∈ gW) (hi : Cond.static y ∈ gW) (hz : Cond.initialized C ∈ gW)
    (hd : y.cls = C ∧ y.cls ≠ "java/lang/invoke/MethodHandle" ∧ y.cls ≠ "java/lang/invoke/VarHandle" ∧ (parseMethodDescriptor y.desc).map (fun d => d.parameters.length) = some n) (hR : rm.frames + 1 ≤ R.frames ∧ 8 + (maxL + 11) + rm.locals ≤ R.locals) :
    CallB R s args own index y bytes maxL ret (.code y bytes maxL ret :: gW) rm rm.cells rm.slots n ∧ (Cond.static y).before args s = true := by
  have g : ∀ w ∈ gW, w.before args s = true := fun w h => hts w (List.mem_cons_of_mem _ h)
  refine ⟨callB_of n hts (fun w h => ?_) rfl rfl rfl (by rw [hd.1]; exact g _ hz) (g _ hl) hd.2 hR, g _ hi⟩
  rcases List.mem_cons.mp h with h | h
  · rw [h]; exact gm_self _ hc
  · exact gm_self _ h
end CW
/-- a Part's cell -/
abbrev pSt : Type := Int32 × Int32 × Int32 × Int32
def ptW (h : Nat) (u : pSt) : va_W := [(h, .inr (0, [.int u.1, .int u.2.1, .int u.2.2.1, .int u.2.2.2]))]
/-- the class's state: its ints (copied, ageLimit, rowInUse, collections, copiesInRows, copiesInOld), its parts' (first, cells, used, objects), roots, copies, cells, how many cells, where they lie -/
def nSt : Type := (Nat → Int32) × (Nat → Nat → Int32) × (Nat → Int32) × (Nat → Int32) × (Nat → Int32) × Nat × Nat
def nSt.F (σ : nSt) : Nat → Int32 := σ.1
def nSt.P (σ : nSt) : Nat → Nat → Int32 := σ.2.1
def nSt.R (σ : nSt) : Nat → Int32 := σ.2.2.1
def nSt.C (σ : nSt) : Nat → Int32 := σ.2.2.2.1
def nSt.X (σ : nSt) : Nat → Int32 := σ.2.2.2.2.1
def nSt.N (σ : nSt) : Nat := σ.2.2.2.2.2.1
def nSt.hx (σ : nSt) : Nat := σ.2.2.2.2.2.2
def up2 (P : Nat → Nat → Int32) (i j : Nat) (v : Int32) : Nat → Nat → Int32 := fun a b => if a = i then (if b = j then v else P a b) else P a b
def upP (P : Nat → Nat → Int32) (i : Nat) (u : pSt) : Nat → Nat → Int32 := fun a b => if a = i then (match b with | 0 => u.1 | 1 => u.2.1 | 2 => u.2.2.1 | _ => u.2.2.2) else P a b
def nSt.sF (σ : nSt) (k : Nat) (v : Int32) : nSt := (upd σ.F k v, σ.P, σ.R, σ.C, σ.X, σ.N, σ.hx)
def nSt.sP (σ : nSt) (i : Nat) (u : pSt) : nSt := (σ.F, upP σ.P i u, σ.R, σ.C, σ.X, σ.N, σ.hx)
def nSt.sR (σ : nSt) (f : Nat → Int32) : nSt := (σ.F, σ.P, f, σ.C, σ.X, σ.N, σ.hx)
def nSt.sC (σ : nSt) (f : Nat → Int32) : nSt := (σ.F, σ.P, σ.R, f, σ.X, σ.N, σ.hx)
def nSt.sX (σ : nSt) (f : Nat → Int32) : nSt := (σ.F, σ.P, σ.R, σ.C, f, σ.N, σ.hx)
def nSt.sN (σ : nSt) (n h : Nat) (f : Nat → Int32) : nSt := (σ.F, σ.P, σ.R, σ.C, f, n, h)
/-- a part's four numbers -/
def nSt.p (σ : nSt) (i : Nat) : pSt := (σ.P i 0, σ.P i 1, σ.P i 2, σ.P i 3)
def nrT (cI cP : ClassId) : List (ClassId × FieldType) := [(cI, .int), (cP, .object "NurseryRow$Part")]
/-- its cells: a gives where they lie -/
def nrW (cI cP : ClassId) (a : Nat → Nat) (σ : nSt) : va_W :=
  [(a 0, .inr (1, [.ref (a 1), .ref (a 6), .ref (a 7), .ref σ.hx, .int (σ.F 0), .int (σ.F 1), .int (σ.F 2), .int (σ.F 3), .int (σ.F 4), .int (σ.F 5)])),
   (a 1, .inl (cP, 4, .inr (.inr (.inr (.inr (fun j => some (a (2 + j)))))))),
   (a 2, .inr (0, [.int (σ.P 0 0), .int (σ.P 0 1), .int (σ.P 0 2), .int (σ.P 0 3)])),
   (a 3, .inr (0, [.int (σ.P 1 0), .int (σ.P 1 1), .int (σ.P 1 2), .int (σ.P 1 3)])),
   (a 4, .inr (0, [.int (σ.P 2 0), .int (σ.P 2 1), .int (σ.P 2 2), .int (σ.P 2 3)])),
   (a 5, .inr (0, [.int (σ.P 3 0), .int (σ.P 3 1), .int (σ.P 3 2), .int (σ.P 3 3)])),
   (a 6, .inl (cI, 16, .inl σ.R)), (a 7, .inl (cI, 512, .inl σ.C)), (σ.hx, .inl (cI, σ.N, .inl σ.X))]
theorem nr_pl (cI cP : ClassId) (a : Nat → Nat) (σ : nSt) {i : Nat} (hi : i < 4) : (nrW cI cP a σ)[2 + i]? = some (a (2 + i), .inr (0, [.int (σ.P i 0), .int (σ.P i 1), .int (σ.P i 2), .int (σ.P i 3)])) := by
  rcases (show i = 0 ∨ i = 1 ∨ i = 2 ∨ i = 3 by omega) with rfl | rfl | rfl | rfl <;> rfl
section PL
variable {l : Launch} {y : MethodName} {ws : List Cond} {rm : Room} {D : va_G} {cI cP : ClassId} {a : Nat → Nat} {σ : nSt}
/-- a Part's contract over the class's world -/
theorem nr_liftp {i : Nat} {av : List Value} {r : Int32} (hi : i < 4) (h : gx_Mp l y ws rm D gC (nrT cI cP) (ptW (a (2 + i)) (σ.p i)) av r) : gx_Mp l y ws rm D gC (nrT cI cP) (nrW cI cP a σ) av r := by
  refine gx_Mp.lift h [2 + i] ?_ rfl
  rcases (show i = 0 ∨ i = 1 ∨ i = 2 ∨ i = 3 by omega) with rfl | rfl | rfl | rfl <;> rfl
theorem nr_lifti {i : Nat} {av : List Value} {post : Int32 → pSt → Prop} (hi : i < 4) (h : gx_Mi l y ws rm D gC (nrT cI cP) (ptW (a (2 + i))) (σ.p i) av post) : gx_Mi l y ws rm D gC (nrT cI cP) (nrW cI cP a) σ av (fun r u => ∃ v, post r v ∧ u = σ.sP i v) := by
  rcases (show i = 0 ∨ i = 1 ∨ i = 2 ∨ i = 3 by omega) with rfl | rfl | rfl | rfl
  · exact gx_Mi.lift (wr := (nrW cI cP a σ).eraseIdx 2) h (fun v => σ.sP 0 v) [2] [0, 1, 3, 4, 5, 6, 7, 8] [0, 1, 8, 2, 3, 4, 5, 6, 7] rfl rfl rfl rfl (by decide) rfl (fun _ => rfl) (fun r u hq => ⟨u, hq, rfl⟩)
  · exact gx_Mi.lift (wr := (nrW cI cP a σ).eraseIdx 3) h (fun v => σ.sP 1 v) [3] [0, 1, 2, 4, 5, 6, 7, 8] [0, 1, 2, 8, 3, 4, 5, 6, 7] rfl rfl rfl rfl (by decide) rfl (fun _ => rfl) (fun r u hq => ⟨u, hq, rfl⟩)
  · exact gx_Mi.lift (wr := (nrW cI cP a σ).eraseIdx 4) h (fun v => σ.sP 2 v) [4] [0, 1, 2, 3, 5, 6, 7, 8] [0, 1, 2, 3, 8, 4, 5, 6, 7] rfl rfl rfl rfl (by decide) rfl (fun _ => rfl) (fun r u hq => ⟨u, hq, rfl⟩)
  · exact gx_Mi.lift (wr := (nrW cI cP a σ).eraseIdx 5) h (fun v => σ.sP 3 v) [5] [0, 1, 2, 3, 4, 6, 7, 8] [0, 1, 2, 3, 4, 8, 5, 6, 7] rfl rfl rfl rfl (by decide) rfl (fun _ => rfl) (fun r u hq => ⟨u, hq, rfl⟩)
theorem nr_liftv {i : Nat} {av : List Value} {post : pSt → Prop} (hi : i < 4) (h : gx_Mv l y ws rm D gC (nrT cI cP) (ptW (a (2 + i))) (σ.p i) av post) : gx_Mv l y ws rm D gC (nrT cI cP) (nrW cI cP a) σ av (fun u => ∃ v, post v ∧ u = σ.sP i v) := by
  rcases (show i = 0 ∨ i = 1 ∨ i = 2 ∨ i = 3 by omega) with rfl | rfl | rfl | rfl
  · exact gx_Mv.lift (wr := (nrW cI cP a σ).eraseIdx 2) h (fun v => σ.sP 0 v) [2] [0, 1, 3, 4, 5, 6, 7, 8] [0, 1, 8, 2, 3, 4, 5, 6, 7] rfl rfl rfl rfl (by decide) rfl (fun _ => rfl) (fun u hq => ⟨u, hq, rfl⟩)
  · exact gx_Mv.lift (wr := (nrW cI cP a σ).eraseIdx 3) h (fun v => σ.sP 1 v) [3] [0, 1, 2, 4, 5, 6, 7, 8] [0, 1, 2, 8, 3, 4, 5, 6, 7] rfl rfl rfl rfl (by decide) rfl (fun _ => rfl) (fun u hq => ⟨u, hq, rfl⟩)
  · exact gx_Mv.lift (wr := (nrW cI cP a σ).eraseIdx 4) h (fun v => σ.sP 2 v) [4] [0, 1, 2, 3, 5, 6, 7, 8] [0, 1, 2, 3, 8, 4, 5, 6, 7] rfl rfl rfl rfl (by decide) rfl (fun _ => rfl) (fun u hq => ⟨u, hq, rfl⟩)
  · exact gx_Mv.lift (wr := (nrW cI cP a σ).eraseIdx 5) h (fun v => σ.sP 3 v) [5] [0, 1, 2, 3, 4, 6, 7, 8] [0, 1, 2, 3, 4, 8, 5, 6, 7] rfl rfl rfl rfl (by decide) rfl (fun _ => rfl) (fun u hq => ⟨u, hq, rfl⟩)
end PL
end
section
/-! 'throw new X("..")' where X's own constructor calls its superclass's by any entry: NoSuchElementException's does by 13. It stands on the library's laws of Throwable (ThrowableC.of_atoms, Init0T.ofS_atoms, PassC.ofS_atoms, chainS, ctorMessageOffV, athrowLeaves) -/
def nx_tail (own : String) (ic : Nat) (X : String) : List Cond :=
  [.methodLink own ic (Bundle.initS X), .instantiable X 6, .selects X Bundle.tFill0 Bundle.tFill0, .selects X Bundle.tFill Bundle.tFill,
   .lays X Bundle.tN "cause" "Ljava/lang/Throwable;", .lays X Bundle.tN "stackTrace" Bundle.steD, .lays X Bundle.tN "suppressedExceptions" Bundle.listD, .lays X Bundle.tN "detailMessage" "Ljava/lang/String;",
   .fieldLink Bundle.tN 198 Bundle.tN "backtrace" "Ljava/lang/Object;", .lays Bundle.tN Bundle.tN "backtrace" "Ljava/lang/Object;", .lays X Bundle.tN "backtrace" "Ljava/lang/Object;"]
/-- Throwable's words, X's own pass to RuntimeException, RuntimeException's and Exception's passes, X's own words -/
def nx_own (own : String) (ic : Nat) (X : String) (ix : Nat) (rx : ByteArray) : List Cond :=
  Bundle.throwableAtoms ++ (Bundle.throwableSAtoms ++ (Bundle.passSAtoms X "java/lang/RuntimeException" ix rx ++ (Bundle.chainSAtoms "java/lang/RuntimeException" ["java/lang/Exception"] ++ nx_tail own ic X)))
section NX
variable {p : Program} {l : Launch} {e : Env} {R : Room} {s : State} {m : MethodId} {args : Array Value} {below : List Frame} {meth : Method} {c : Code} {locs : List Loc} {cells slots : Nat}
set_option maxHeartbeats 4000000 in
theorem nx_ctor {V : State} (Z : Stand p l e R s m args below meth c V locs cells slots) (hexec : p.tables.exec = Jvm.exec) (htr : e.platform.stackTraces = false) {own X : String} {ic ix : Nat} {rx : ByteArray}
    (x0 : decode rx 0 = .ok (.aload_n 0, 1)) (x1 : decode rx 1 = .ok (.aload_n 1, 1)) (x2 : decode rx 2 = .ok (.invokespecial ix, 3)) (x5 : decode rx 5 = .ok (.return_, 1))
    (hown : s.vm.findClass own = some m.cls) (hX : Bundle.fit X = true) (h : ∀ w ∈ nx_own own ic X ix rx, w.before args s = true)
    (hU : (Cond.isRef (.static Bundle.tN "UNASSIGNED_STACK" Bundle.steD)).before args s = true) (hS : (Cond.isRef (.static Bundle.tN "SUPPRESSED_SENTINEL" Bundle.listD)).before args s = true)
    (hlocs : ∀ x ∈ locs, ∀ cell, s.heap[x.base]? = some cell → cell.vm.isStatics = false)
    {a : Addr} {cX : ClassId} {kX : Class} (hfX : s.vm.findClass X = some cX) (hkX : s.vm.classes[cX]? = some kX) (hcell : V.heap[a]? = some (freshCell cX kX)) (hnew : s.heap.size ≤ a)
    {msg : Value} (hmsg : msg.isRef = true) {g : JFrame} (hg : g.method = m) (hsize : g.locals.size = c.maxLocals) (hlk : g.locked = none) (hen : g.entered = []) {rest : List Value} (hstack : g.stack = msg :: .ref a :: .ref a :: rest)
    (d6 : decode c.code g.pc = .ok (.invokespecial ic, 3)) (d9 : decode c.code (g.pc + 3) = .ok (.athrow, 1)) (hout : ∀ x ∈ c.exceptionTable.toList, covers x (g.pc + 3) = false)
    (hRf : 5 < R.frames) (hRl : 2 * g.monitorRoom + ((Value.ref a :: rest).map fun v => v.category).sum + 81 ≤ R.locals) (hlocks : meth.locks = false) :
    ∃ U : State, Steps p.tables e below (V.setTop g) U ∧ U.status = .running ∧ Ended U below (.threw a) ∧ s.WarmedH U.vm ∧ s.sameButNew ({ U with vm := s.vm } : State) locs cells slots ∧
      ∃ ce : Cell, U.heap[a]? = some ce ∧ ce.vm = .none ∧ s.vm.findClass X = some ce.cls := by
  have hpf : e.platform = _ := Z.admits.platform
  have hpl : e.platform.magicAccessors = ({} : Platform).magicAccessors := by rw [hpf]
  have w1 : ∀ w ∈ Bundle.throwableAtoms, w.before args s = true := fun w hw => h w (List.mem_append_left _ hw)
  have w2 : ∀ w ∈ Bundle.throwableSAtoms, w.before args s = true := fun w hw => h w (List.mem_append_right _ (List.mem_append_left _ hw))
  have w3 : ∀ w ∈ Bundle.passSAtoms X "java/lang/RuntimeException" ix rx, w.before args s = true := fun w hw => h w (List.mem_append_right _ (List.mem_append_right _ (List.mem_append_left _ hw)))
  have w4 : ∀ w ∈ Bundle.chainSAtoms "java/lang/RuntimeException" ["java/lang/Exception"], w.before args s = true := fun w hw => h w (List.mem_append_right _ (List.mem_append_right _ (List.mem_append_right _ (List.mem_append_left _ hw))))
  have w5 : ∀ w ∈ nx_tail own ic X, w.before args s = true := fun w hw => h w (List.mem_append_right _ (List.mem_append_right _ (List.mem_append_right _ (List.mem_append_right _ hw))))
  obtain ⟨T, Z0, L, -, Y⟩ := ThrowableC.of_atoms (args := args) (by rw [hpf]) (by rw [hpf]) hpl w1
  obtain ⟨ZI, M, LZ, LM, hnZ⟩ := Init0T.ofS_atoms (args := args) hpl L Y w2
  obtain ⟨P1, L1, hP1m, hP1s⟩ := PassC.ofS_atoms (args := args) (s := s) hpl (Bundle.fit_spec hX).1 (by decide) x0 x1 x2 x5 w3
  obtain ⟨P2, Ps, hlen, L2, hL, hP2m, hsup2, hpass⟩ := Bundle.chainS (args := args) hpl hnZ ["java/lang/Exception"] "java/lang/RuntimeException" (by decide) (by decide) w4
  have hfound : s.vm.findClass X = some P1.m.cls := findClass_of_methodNamed hP1m
  cases Option.some.inj (hfX.symm.trans hfound)
  obtain ⟨c1, kX', hc1, hk, hord, -, -, hn6⟩ := Cond.instantiable_spec (w5 (.instantiable X 6) (by simp [nx_tail]))
  cases Option.some.inj (hc1.symm.trans hfound)
  cases Option.some.inj (hkX.symm.trans hk)
  have sel : ∀ {y : MethodName} {mk : MethodId}, s.methodNamed? y = some mk → (y.cls ≠ "java/lang/invoke/MethodHandle" ∧ y.cls ≠ "java/lang/invoke/VarHandle") → (Cond.selects X y y).before args s = true → selectMethod e.platform s.vm P1.m.cls mk = .method mk := by
    intro y mk hn hne hs
    obtain ⟨c2, r2, m2, q1, q2, q3, q4, -⟩ := Cond.selects_spec hs
    cases Option.some.inj (q1.symm.trans hfound)
    cases Option.some.inj (q2.symm.trans (State.methodFound?_of_named hn hne))
    cases Option.some.inj (q3.symm.trans hn)
    rw [Launch.admits_selectMethod Z.admits]; exact q4
  have hsel0 := sel Y.fill0 (by decide) (w5 (.selects X Bundle.tFill0 Bundle.tFill0) (by simp [nx_tail]))
  have hselF := sel Y.fill (by decide) (w5 (.selects X Bundle.tFill Bundle.tFill) (by simp [nx_tail]))
  obtain ⟨cellS0, hcS0, hiss⟩ := Y.statics
  obtain ⟨u0, hu0⟩ := Cond.staticRefV Y.unassigned L.unassignedStatic L.statics hcS0 hiss hU
  obtain ⟨sen, hsen⟩ := Cond.staticRefV Y.sentinel L.sentinelStatic L.statics hcS0 hiss hS
  obtain ⟨ci, iB, fB, hk198, hg198, ha198, hsB, -, hnB, htB, hffB⟩ := Cond.ownField (t := .object "java/lang/Object") Y.found L.cls (by decide +kernel) (w5 (.fieldLink Bundle.tN 198 Bundle.tN "backtrace" "Ljava/lang/Object;") (by simp [nx_tail])) (w5 (.lays Bundle.tN Bundle.tN "backtrace" "Ljava/lang/Object;") (by simp [nx_tail])) e.platform hpl
  obtain ⟨cellS, hcS, heS, -, hkeep⟩ := Z.same.2.2.2.2.2 T.aS cellS0 hcS0
  have hno : ∀ i, (⟨T.aS, i⟩ : Loc) ∉ locs := fun i hm => by
    have := hlocs _ hm cellS0 hcS0
    rw [hiss] at this; cases this
  have hkn : cellS.vm ≠ .unknown := by
    rw [heS]; intro hu
    rw [show cellS0.vm = .unknown from hu] at hiss
    cases hiss
  have hne : T.aS ≠ a := Nat.ne_of_lt (Nat.lt_of_lt_of_le (Array.getElem?_eq_some_iff.mp hcS0).1 hnew)
  obtain ⟨iM, hffM⟩ := Y.msg
  obtain ⟨tyC, dC, hdC, hdnC⟩ := Cond.laysAt hfound hk Y.cause (w5 (.lays X Bundle.tN "cause" "Ljava/lang/Throwable;") (by simp [nx_tail]))
  obtain ⟨tyS, dS, hdS, hdnS⟩ := Cond.laysAt hfound hk Y.stack (w5 (.lays X Bundle.tN "stackTrace" Bundle.steD) (by simp [nx_tail]))
  obtain ⟨tyP, dP, hdP, hdnP⟩ := Cond.laysAt hfound hk Y.supp (w5 (.lays X Bundle.tN "suppressedExceptions" Bundle.listD) (by simp [nx_tail]))
  obtain ⟨tyM, dM, hdM, hdnM⟩ := Cond.laysAt hfound hk hffM (w5 (.lays X Bundle.tN "detailMessage" "Ljava/lang/String;") (by simp [nx_tail]))
  obtain ⟨tyB, dB, hdB, hdnB⟩ := Cond.laysAt hfound hk hffB (w5 (.lays X Bundle.tN "backtrace" "Ljava/lang/Object;") (by simp [nx_tail]))
  have bC := Cond.laysApart hdB hdC hdnB hdnC (by rw [hnB, Y.causeName]; decide)
  have bS := Cond.laysApart hdB hdS hdnB hdnS (by rw [hnB, Y.stackName]; decide)
  have bP := Cond.laysApart hdB hdP hdnB hdnP (by rw [hnB, Y.suppName]; decide)
  have hskip : SkipFacts T e.platform s (fun u => u) u0 ((preparedCellV T.toThrowableT (freshCell P1.m.cls kX) a u0 sen).withEntry V.cur) :=
    ⟨{ ci198 := ci, i198 := iB, fBack := fB }, ⟨hk198, hg198, ha198, hsB⟩, by
      have := fresh_default (c := P1.m.cls) tyB
      rw [htB] at this
      simpa [preparedCellV, Cell.setSlot, Cell.withEntry, Array.getElem?_setIfInBounds, bC, bS, bP, bC.symm, bS.symm, bP.symm, defaultValue] using this, fun _ _ => rfl⟩
  obtain ⟨tm, methC, cdC, kC, vm₁, hnC, -, -, -, -, -, -, -, hW₁, st1⟩ := Steps.initColdS (tb := p.tables) (e := e) (below := below) (s := s) (U := V) Z.here hexec Z.warmed hpl hown (t := Bundle.initS X) rfl rfl (Bundle.fit_spec hX).2
    (w5 (.methodLink own ic (Bundle.initS X)) (by simp [nx_tail])) (w3 (.instanceMethod (Bundle.initS X)) (by simp [Bundle.passSAtoms])) (bytes := rx) (maxL := 2) (w3 (.code (Bundle.initS X) rx 2 none) (by simp [Bundle.passSAtoms]))
    (f := g) hg (a := a) (msg := msg) (rest := .ref a :: rest) hstack d6
  cases Option.some.inj (hnC.symm.trans hP1m)
  have hP2 : P1.sup = P2.m := Option.some.inj (hP1s.symm.trans hP2m)
  obtain ⟨vm₂, X₂, st2⟩ := (Z.noted hW₁).ctorMessageOffV hexec (g := { g with stack := .ref a :: rest }) hg hsize T L ZI LZ M LM (P1 :: P2 :: Ps)
    (fun P hP => by
      rcases List.mem_cons.mp hP with rfl | hP
      · exact L1
      · rcases List.mem_cons.mp hP with rfl | hP
        · exact L2
        · exact hL P hP) ⟨hP2, hsup2, hpass⟩ (u0 := u0) (sen := sen) (self := a) hmsg (cell := freshCell P1.m.cls kX) (cellS := cellS)
    hcell (fun _ => by simp) (by simp) rfl rfl hsel0 hselF hcS hne hkn (by rw [hkeep _ (hno _)]; exact hu0) (by rw [hkeep _ (hno _)]; exact hsen)
    (Takes.of_laid hk hord tyC (by rw [Y.causeType]; rfl)) (Takes.of_laid hk hord tyS (by rw [Y.stackType]; exact fits_refV_array _ u0)) (Takes.of_laid hk hord tyP (by rw [Y.suppType]; exact fits_refV_object _ sen))
    (Takes.of_laid hk hord tyM (by rw [Y.msgType]; exact fits_refV_object _ ⟨msg, hmsg⟩)) Y.objLocals hskip htr [] d6
    (by simp only [List.length_cons, hlen, List.length_nil]; omega) (by simp only [List.length_cons, hlen, List.length_nil]; exact hRl)
  obtain ⟨hwalk, hrun, hended, hWU, hsame⟩ := X₂.athrowLeaves hexec (g := { g with stack := .ref a :: rest, pc := g.pc + 3 }) hg hlk hen hout (a := a) (rest := rest) rfl d9 hlocks
  have hlt : a < ((V.setVm vm₁).setVm vm₂).heap.size := (Array.getElem?_eq_some_iff.mp hcell).1
  have hce := heapAt_setCell_self (s := (V.setVm vm₁).setVm vm₂) (plainBareV T.toThrowableT (freshCell P1.m.cls kX) a u0 sen msg) hlt
  refine ⟨_, st1 _ (fun acts => ?_), hrun, hended, hWU, hsame.weaken (fun y hy hlt' => ?_) (Nat.le_refl _) (Nat.le_refl _), _, hce, rfl, hfound⟩
  · rw [doInvoke_state]
    exact st2 _ hwalk
  · rcases List.mem_append.mp hy with h1 | h1
    · exact h1
    · exfalso
      have hb : y.base = a := by
        simp only [List.mem_cons, List.not_mem_nil, or_false] at h1
        rcases h1 with rfl | rfl | rfl | rfl | rfl <;> rfl
      rw [hb] at hlt'
      exact Nat.not_lt.mpr hnew hlt'
end NX
def nx_at (own : String) (ic : Nat) (X : String) (ix : Nat) (rx : ByteArray) : List Cond := (nx_own own ic X ix rx).filter vx_no
section NXW
variable {p : Program} {l : Launch} {e : Env} {R : Room} {s : State} {m : MethodId} {args : Array Value} {below : List Frame} {meth : Method} {c : Code} {H : Heap} {locs : List Loc} {cells slots : Nat}
variable {free : Addr → Prop} {ls : Array Slot} {rest : List Value} {Qc : Array Value → State → Outcome → State → Prop} {XC : String → State → State → Prop}
set_option maxHeartbeats 4000000 in
/-- the rows of 'throw new X("..")' (as vx_throwS, with X's own entry) -/
theorem nx_throw {cc : ByteArray} {pc : Nat} (hexec : p.tables.exec = Jvm.exec) (hb : c.code = cc) (hl : l.stackTraces = false) {own X text : String} {ik is ic ix mc ms sa : Nat} {rx : ByteArray} {A : Nat → Prop}
    (x0 : decode rx 0 = .ok (.aload_n 0, 1)) (x1 : decode rx 1 = .ok (.aload_n 1, 1)) (x2 : decode rx 2 = .ok (.invokespecial ix, 3)) (x5 : decode rx 5 = .ok (.return_, 1))
    (hown : s.vm.findClass own = some m.cls) (hX : Bundle.fit X = true)
    (hk : (Cond.classLink own ik X).before args s = true) (hini : (Cond.initialized X).before args s = true) (hstr : vk_R own is text sa s) (hat : ∀ w ∈ nx_at own ic X ix rx, w.before args s = true)
    (hgood : ∀ w ∈ Cond.classLink own ik X :: Cond.initialized X :: nx_at own ic X ix rx, vx_ot w = true)
    (hU : vx_Zq Bundle.tN "UNASSIGNED_STACK" Bundle.steD A s s.heap) (hN : vx_Zq Bundle.tN "SUPPRESSED_SENTINEL" Bundle.listD A s s.heap) (hS : va_S A s.heap H locs) (hsize : ls.size = c.maxLocals)
    (d0 : decode cc pc = .ok (.new ik, 3)) (d3 : decode cc (pc + 3) = .ok (.dup, 1)) (d4 : decode cc (pc + 4) = .ok (.ldc is, 2)) (d6 : decode cc (pc + 6) = .ok (.invokespecial ic, 3)) (d9 : decode cc (pc + 9) = .ok (.athrow, 1))
    (hout : ∀ x ∈ c.exceptionTable.toList, covers x (pc + 9) = false)
    (hRf : 5 < R.frames) (hRl : (rest.map fun v => v.category).sum + 82 ≤ R.locals) (hRc : cells + 1 ≤ R.cells) (hRs : slots + 6 ≤ R.slots) (hlocks : meth.locks = false)
    (hx : ∀ t : State, s.vm.Alike t.vm → H.size ≤ t.heap.size → (∀ q : Nat, q < H.size → t.heap[q]? = H[q]?) → XC X s t)
    (hf : ∀ z ∈ locs, free z.base) (hc : cells + 1 ≤ mc) (hs : slots + 6 ≤ ms) :
    W p l e R s m args below meth c H locs cells slots (vx_MQ below Qc XC args s mc ms free) (F0 m pc ls rest) := by
  intro T hT Z
  have htr : e.platform.stackTraces = false := (show e.platform.stackTraces = l.stackTraces by rw [Z.admits.platform]).trans hl
  have Y := vx_rebase Z (R' := { frames := R.frames, locals := R.locals, cells := 1, slots := 6 }) (Nat.le_refl _) (Nat.le_refl _) hRc hRs
  obtain ⟨s', hA⟩ : ∃ z, z = (T.setVm s.vm).setFrames (.invoking m args :: below) := ⟨_, rfl⟩
  rw [← hA] at Y
  have hvm : s'.vm = s.vm := by rw [hA]; rfl
  have hhp : s'.heap = H := by rw [hA]; exact hT
  have hW0 : s.WarmedH s'.vm := by rw [hvm]; exact State.WarmedH.refl s
  have hat' : ∀ w ∈ nx_at own ic X ix rx, w.before args s' = true := fun w hw => vx_ot_at hW0 hvm.symm (hgood w (List.mem_cons_of_mem _ (List.mem_cons_of_mem _ hw))) (hat w hw)
  have hk' : (Cond.classLink own ik X).before args s' = true := vx_ot_at hW0 hvm.symm (hgood _ List.mem_cons_self) hk
  have hini' : (Cond.initialized X).before args s' = true := vx_ot_at hW0 hvm.symm (hgood _ (List.mem_cons_of_mem _ List.mem_cons_self)) hini
  have hU' : vx_Zq Bundle.tN "UNASSIGNED_STACK" Bundle.steD A s' s'.heap := by rw [hhp]; exact vx_Zq.moved hW0.alike (hU.kept hS.2.1)
  have hN' : vx_Zq Bundle.tN "SUPPRESSED_SENTINEL" Bundle.listD A s' s'.heap := by rw [hhp]; exact vx_Zq.moved hW0.alike (hN.kept hS.2.1)
  have h : ∀ w ∈ nx_own own ic X ix rx, w.before args s' = true := vx_own hat' (vx_isRefq hU'.1) (vx_isRefq hN'.1) hU'.2.word hN'.2.word
  have hown' : s'.vm.findClass own = some m.cls := by rw [hvm]; exact hown
  have hins : (Cond.instantiable X 6).before args s' = true := h _ (by simp [nx_own, nx_tail])
  obtain ⟨vm₁, cX, kX, hfX, hkX, -, -, X₁, st1⟩ := Y.newCold hexec (own := own) (C := X) (index := ik) (n := 6) hown' hk' hins hini'
    (g := F0 m pc ls rest) rfl (by rw [hb]; exact d0) (Nat.le_refl _) (Nat.le_refl _)
  generalize hT1 : (T.setVm vm₁).pushCell { cls := cX, slots := kX.instanceTypes.map defaultValue, vm := .none } = T1 at X₁ st1
  have hcat : (Value.ref T.heap.size).category = 1 := rfl
  have hcellA : T1.heap[T.heap.size]? = some (freshCell cX kX) := by rw [← hT1]; exact State.heap_pushCell_size _ _
  have d3' : decode c.code (pc + 3) = .ok (.dup, 1) := by rw [hb]; exact d3
  have d4' : decode c.code (pc + 4) = .ok (.ldc is, 2) := by rw [hb]; exact d4
  have hstr' : vk_R own is text sa s' := vk_R.warm hW0 hstr
  obtain ⟨U, hsteps, hrun, hend, hW, hsame, ce, hce, hv, hO⟩ := nx_ctor X₁ hexec htr (own := own) (X := X) (ic := ic) x0 x1 x2 x5 hown' hX h (vx_isRefq hU'.1) (vx_isRefq hN'.1) (fun x hx => nomatch hx) hfX hkX hcellA (by rw [hhp, hT]; exact Nat.le_refl _) (msg := .ref sa) rfl
    (g := { method := m, pc := pc + 6, locals := ls, stack := .ref sa :: .ref T.heap.size :: .ref T.heap.size :: rest, locked := none }) rfl hsize rfl rfl (rest := rest) rfl
    (by rw [hb]; exact d6) (by rw [hb]; exact d9) hout hRf (by simp only [List.map_cons, List.sum_cons, hcat]; show 2 * 0 + _ + _ ≤ _; omega) hlocks
  obtain ⟨f1, f2⟩ := vx_frame hsame
  rw [hhp] at f1 f2
  have hWs : s.WarmedH U.vm := State.WarmedH.trans hW0 hW
  have hcl : s.vm.findClass X = some ce.cls := by
    have h9 := hO
    rw [hvm] at h9
    exact h9
  have hall : s.sameButNew ({ U with vm := s.vm } : State) locs mc ms := by
    subst hA
    obtain ⟨e1, e2⟩ := hsame
    rw [State.setFrames_setFrames] at e1
    have h2 : (T.setVm s.vm).sameButNew ({ U with vm := s.vm } : State) [] (0 + 1) (0 + 6) := ⟨e1, e2⟩
    have h3 := Z.same.trans h2
    rw [List.append_nil] at h3
    exact h3.mono hc hs
  refine ⟨U, ?_, .threw T.heap.size, hrun, hend, Or.inr ⟨T.heap.size, rfl, X, ce, locs, hx U hWs.alike f1 (fun q hq => f2 q hq (fun z hz => nomatch hz)), hce, hv, hcl, hWs, hall, hf⟩⟩
  refine st1 _ ?_
  show Steps p.tables e below (T1.setTop { method := m, pc := pc + 3, locals := ls, stack := .ref T.heap.size :: rest, locked := none }) _
  jvm_step X₁.here [X₁.here.top, hexec, d3', Value.category]
  exact X₁.ldcString hexec (own := own) (text := text) (index := is) (a := sa) hown' hstr'.1 hstr'.2
    (g := { method := m, pc := pc + 4, locals := ls, stack := .ref T.heap.size :: .ref T.heap.size :: rest, locked := none }) rfl d4' _ hsteps
end NXW
end
section
/-! THE PARTS' METHODS: [first, cells, used, objects] -/
/-- is x among the used cells? -/
def ptCov (f us x : Int32) : Int32 := if x < f then 0 else if f + us ≤ x then 0 else 1
set_option maxHeartbeats 4000000 in
set_option maxRecDepth 100000 in
/-- how many cells are free -/
theorem qPt_free (l : Launch) (D : va_G) (tys : List (ClassId × FieldType)) (h : Nat) (u : pSt) : gx_Mp l yPt_free (Cond.code yPt_free cPt_free 1 (some .int) :: gW) (gR 0) D gC tys (ptW h u) [.ref h] (u.2.1 - u.2.2.1) := by
  refine gx_Mp.of (cc := cPt_free) (maxL := 1) (ret := (some .int)) (by decide) rfl (Nat.le_of_ble_eq_true rfl) ?_
  intro p e s m args below meth c ls E hK hP hD hl
  obtain ⟨hx, hb, hr, hml, hts, hown, hlocks, hnm⟩ := id E
  have hg : ∀ w ∈ gW, w.before args s = true := fun w h => hts w (List.mem_cons_of_mem _ h)
  have hown : s.vm.findClass "NurseryRow$Part" = some m.cls := hown
  have hl : lv_has ls 1 [(0, .ref h)] := hl
  refine lv_aload_n hx hb dPt_free_0 rfl (lv_at hl 0 rfl) ?_
  refine va_get (C := RPt) (T := TPt) (N := 4) (ci := 0) (v := .int u.2.1) hx hb hg inPt hown hK hP 0 rfl rfl 1 (by decide) (hg _ f_Pt_13) (fun _ h9 => h9) rfl dPt_free_1 ?_
  refine lv_aload_n hx hb dPt_free_4 rfl (lv_at hl 0 rfl) ?_
  refine va_get (C := RPt) (T := TPt) (N := 4) (ci := 0) (v := .int u.2.2.1) hx hb hg inPt hown hK hP 0 rfl rfl 2 (by decide) (hg _ f_Pt_19) (fun _ h9 => h9) rfl dPt_free_5 ?_
  refine lv_isub hx hb dPt_free_8 ?_
  exact gx_pret E rfl dPt_free_9
set_option maxHeartbeats 4000000 in
set_option maxRecDepth 100000 in
/-- the first cell that isn't used -/
theorem qPt_end (l : Launch) (D : va_G) (tys : List (ClassId × FieldType)) (h : Nat) (u : pSt) : gx_Mp l yPt_end (Cond.code yPt_end cPt_end 1 (some .int) :: gW) (gR 0) D gC tys (ptW h u) [.ref h] (u.1 + u.2.2.1) := by
  refine gx_Mp.of (cc := cPt_end) (maxL := 1) (ret := (some .int)) (by decide) rfl (Nat.le_of_ble_eq_true rfl) ?_
  intro p e s m args below meth c ls E hK hP hD hl
  obtain ⟨hx, hb, hr, hml, hts, hown, hlocks, hnm⟩ := id E
  have hg : ∀ w ∈ gW, w.before args s = true := fun w h => hts w (List.mem_cons_of_mem _ h)
  have hown : s.vm.findClass "NurseryRow$Part" = some m.cls := hown
  have hl : lv_has ls 1 [(0, .ref h)] := hl
  refine lv_aload_n hx hb dPt_end_0 rfl (lv_at hl 0 rfl) ?_
  refine va_get (C := RPt) (T := TPt) (N := 4) (ci := 0) (v := .int u.1) hx hb hg inPt hown hK hP 0 rfl rfl 0 (by decide) (hg _ f_Pt_7) (fun _ h9 => h9) rfl dPt_end_1 ?_
  refine lv_aload_n hx hb dPt_end_4 rfl (lv_at hl 0 rfl) ?_
  refine va_get (C := RPt) (T := TPt) (N := 4) (ci := 0) (v := .int u.2.2.1) hx hb hg inPt hown hK hP 0 rfl rfl 2 (by decide) (hg _ f_Pt_19) (fun _ h9 => h9) rfl dPt_end_5 ?_
  refine lv_iadd hx hb dPt_end_8 ?_
  exact gx_pret E rfl dPt_end_9
set_option maxHeartbeats 4000000 in
set_option maxRecDepth 100000 in
/-- is x among the used cells? -/
theorem qPt_covers (l : Launch) (D : va_G) (tys : List (ClassId × FieldType)) (h : Nat) (u : pSt) (x : Int32) : gx_Mp l yPt_covers (Cond.code yPt_covers cPt_covers 2 (some .boolean) :: gW) (gR 1) D gC tys (ptW h u) [.ref h, .int x] (ptCov u.1 u.2.2.1 x) := by
  refine gx_Mp.of (cc := cPt_covers) (maxL := 2) (ret := (some .boolean)) (by decide) rfl (Nat.le_of_ble_eq_true rfl) ?_
  intro p e s m args below meth c ls E hK hP hD hl
  obtain ⟨hx, hb, hr, hml, hts, hown, hlocks, hnm⟩ := id E
  have hg : ∀ w ∈ gW, w.before args s = true := fun w h => hts w (List.mem_cons_of_mem _ h)
  have hown : s.vm.findClass "NurseryRow$Part" = some m.cls := hown
  have hl : lv_has ls 2 [(0, .ref h), (1, .int x)] := hl
  refine lv_iload_n hx hb dPt_covers_0 rfl (lv_at hl 1 rfl) ?_
  refine lv_aload_n hx hb dPt_covers_1 rfl (lv_at hl 0 rfl) ?_
  refine va_get (C := RPt) (T := TPt) (N := 4) (ci := 0) (v := .int u.1) hx hb hg inPt hown hK hP 0 rfl rfl 0 (by decide) (hg _ f_Pt_7) (fun _ h9 => h9) rfl dPt_covers_2 ?_
  refine lv_icmp_lt (tgt := 20) hx hb dPt_covers_5 (by decide) (fun c_5 => ?_) (fun c_5 => ?_)
  · refine lv_iconst (v := 0) hx hb dPt_covers_20 (by decide) ?_
    exact gx_zret E rfl (by simp [ptCov, c_5]) dPt_covers_21
  · refine lv_iload_n hx hb dPt_covers_8 rfl (lv_at hl 1 rfl) ?_
    refine lv_aload_n hx hb dPt_covers_9 rfl (lv_at hl 0 rfl) ?_
    refine gx_callp (C := "NurseryRow$Part") (As := []) (rest := [.int x]) E (qPt_end l D tys h u) (gx_cwV hts l_Pt_25 k_Pt_end ki_Pt_end ke_Pt_end z_Pt n_Pt_end ⟨by decide, by decide⟩) hK hP hD (va_recv hK hP (ci := 0) (q0 := 0) rfl rfl) hl.1 rfl rfl (Nat.le_of_ble_eq_true rfl) ⟨Nat.zero_le _, Nat.zero_le _⟩ dPt_covers_10 ?_
    refine lv_icmp_ge (tgt := 20) hx hb dPt_covers_13 (by decide) (fun c_13 => ?_) (fun c_13 => ?_)
    · refine lv_iconst (v := 0) hx hb dPt_covers_20 (by decide) ?_
      exact gx_zret E rfl (by simp [ptCov, c_5, c_13]) dPt_covers_21
    · refine lv_iconst (v := 1) hx hb dPt_covers_16 (by decide) ?_
      refine lv_goto (tgt := 21) hx hb dPt_covers_17 (by decide) ?_
      exact gx_zret E rfl (by simp [ptCov, c_5, c_13]) dPt_covers_21
set_option maxHeartbeats 4000000 in
set_option maxRecDepth 100000 in
/-- nothing is used -/
theorem qPt_empty (l : Launch) (D : va_G) (tys : List (ClassId × FieldType)) (h : Nat) (u : pSt) : gx_Mv l yPt_empty (Cond.code yPt_empty cPt_empty 1 none :: gW) (gR 0) D gC tys (ptW h) u [.ref h] (fun v => v = (u.1, u.2.1, 0, 0)) := by
  refine gx_Mv.of (cc := cPt_empty) (maxL := 1) (by decide) rfl (Nat.le_of_ble_eq_true rfl) ?_
  intro p e s m args below meth c ls A E hA hK hP hD hS hl
  obtain ⟨hx, hb, hr, hml, hts, hown, hlocks, hnm⟩ := id E
  have hg : ∀ w ∈ gW, w.before args s = true := fun w h => hts w (List.mem_cons_of_mem _ h)
  have hown : s.vm.findClass "NurseryRow$Part" = some m.cls := hown
  have hl : lv_has ls 1 [(0, .ref h)] := hl
  refine lv_aload_n hx hb dPt_empty_0 rfl (lv_at hl 0 rfl) ?_
  refine lv_iconst (v := 0) hx hb dPt_empty_1 (by decide) ?_
  refine va_put (C := RPt) (T := TPt) (N := 4) (ci := 0) (v := .int 0) hx hb hg inPt tyPt tyPt_ok nmPt hown hK hP hD hS 0 rfl rfl 2 (by decide) (hg _ f_Pt_19) (fun _ h9 => h9) rfl (tyPt_ok 2 (by decide)) rfl rfl (Nat.le_of_ble_eq_true rfl) dPt_empty_2 (fun H locs hP hD hS => ?_)
  have hP : va_P D gC (ptW h (u.1, u.2.1, 0, u.2.2.2)) H := hP
  have hD : va_D A (ptW h (u.1, u.2.1, 0, u.2.2.2)) := hD
  refine lv_aload_n hx hb dPt_empty_5 rfl (lv_at hl 0 rfl) ?_
  refine lv_iconst (v := 0) hx hb dPt_empty_6 (by decide) ?_
  refine va_put (C := RPt) (T := TPt) (N := 4) (ci := 0) (v := .int 0) hx hb hg inPt tyPt tyPt_ok nmPt hown hK hP hD hS 0 rfl rfl 3 (by decide) (hg _ f_Pt_22) (fun _ h9 => h9) rfl (tyPt_ok 3 (by decide)) rfl rfl (Nat.le_of_ble_eq_true rfl) dPt_empty_7 (fun H locs hP hD hS => ?_)
  have hP : va_P D gC (ptW h (u.1, u.2.1, 0, 0)) H := hP
  have hD : va_D A (ptW h (u.1, u.2.1, 0, 0)) := hD
  exact gx_vret (u := (u.1, u.2.1, 0, 0)) E hK hP hD hS rfl dPt_empty_10
set_option maxHeartbeats 4000000 in
set_option maxRecDepth 100000 in
/-- where it lies, and how many cells it has -/
theorem qPt_lay (l : Launch) (D : va_G) (tys : List (ClassId × FieldType)) (h : Nat) (u : pSt) (x : Int32) (y : Int32) : gx_Mv l yPt_lay (Cond.code yPt_lay cPt_lay 3 none :: gW) (gR 1) D gC tys (ptW h) u [.ref h, .int x, .int y] (fun v => v = (x, y, 0, 0)) := by
  refine gx_Mv.of (cc := cPt_lay) (maxL := 3) (by decide) rfl (Nat.le_of_ble_eq_true rfl) ?_
  intro p e s m args below meth c ls A E hA hK hP hD hS hl
  obtain ⟨hx, hb, hr, hml, hts, hown, hlocks, hnm⟩ := id E
  have hg : ∀ w ∈ gW, w.before args s = true := fun w h => hts w (List.mem_cons_of_mem _ h)
  have hown : s.vm.findClass "NurseryRow$Part" = some m.cls := hown
  have hl : lv_has ls 3 [(0, .ref h), (1, .int x), (2, .int y)] := hl
  refine lv_aload_n hx hb dPt_lay_0 rfl (lv_at hl 0 rfl) ?_
  refine lv_iload_n hx hb dPt_lay_1 rfl (lv_at hl 1 rfl) ?_
  refine va_put (C := RPt) (T := TPt) (N := 4) (ci := 0) (v := .int x) hx hb hg inPt tyPt tyPt_ok nmPt hown hK hP hD hS 0 rfl rfl 0 (by decide) (hg _ f_Pt_7) (fun _ h9 => h9) rfl (tyPt_ok 0 (by decide)) rfl rfl (Nat.le_of_ble_eq_true rfl) dPt_lay_2 (fun H locs hP hD hS => ?_)
  have hP : va_P D gC (ptW h (x, u.2.1, u.2.2.1, u.2.2.2)) H := hP
  have hD : va_D A (ptW h (x, u.2.1, u.2.2.1, u.2.2.2)) := hD
  refine lv_aload_n hx hb dPt_lay_5 rfl (lv_at hl 0 rfl) ?_
  refine lv_iload_n hx hb dPt_lay_6 rfl (lv_at hl 2 rfl) ?_
  refine va_put (C := RPt) (T := TPt) (N := 4) (ci := 0) (v := .int y) hx hb hg inPt tyPt tyPt_ok nmPt hown hK hP hD hS 0 rfl rfl 1 (by decide) (hg _ f_Pt_13) (fun _ h9 => h9) rfl (tyPt_ok 1 (by decide)) rfl rfl (Nat.le_of_ble_eq_true rfl) dPt_lay_7 (fun H locs hP hD hS => ?_)
  have hP : va_P D gC (ptW h (x, y, u.2.2.1, u.2.2.2)) H := hP
  have hD : va_D A (ptW h (x, y, u.2.2.1, u.2.2.2)) := hD
  refine lv_aload_n hx hb dPt_lay_10 rfl (lv_at hl 0 rfl) ?_
  refine gx_callv (C := "NurseryRow$Part") (As := []) (rest := []) E (qPt_empty l D tys h (x, y, u.2.2.1, u.2.2.2)) (gx_cwV hts l_Pt_16 k_Pt_empty ki_Pt_empty ke_Pt_empty z_Pt n_Pt_empty ⟨by decide, by decide⟩) hK hP hD hS hA (va_recv hK hP (ci := 0) (q0 := 0) rfl rfl) hl.1 rfl rfl (Nat.le_of_ble_eq_true rfl) ⟨by decide, by decide⟩ dPt_lay_11 (fun u_2 H locs hq_3 hP hD hS => ?_)
  subst hq_3
  have hP : va_P D gC (ptW h (x, y, 0, 0)) H := hP
  have hD : va_D A (ptW h (x, y, 0, 0)) := hD
  exact gx_vret (u := (x, y, 0, 0)) E hK hP hD hS rfl dPt_lay_14
set_option maxHeartbeats 4000000 in
set_option maxRecDepth 100000 in
/-- the next x cells -/
theorem qPt_take (l : Launch) (D : va_G) (tys : List (ClassId × FieldType)) (h : Nat) (u : pSt) (x : Int32) : gx_Mi l yPt_take (Cond.code yPt_take cPt_take 3 (some .int) :: gW) (gR 1) D gC tys (ptW h) u [.ref h, .int x] (fun r v => r = u.1 + u.2.2.1 ∧ v = (u.1, u.2.1, u.2.2.1 + x, u.2.2.2 + 1)) := by
  refine gx_Mi.of (cc := cPt_take) (maxL := 3) (ret := (some .int)) (by decide) rfl (Nat.le_of_ble_eq_true rfl) ?_
  intro p e s m args below meth c ls A E hA hK hP hD hS hl
  obtain ⟨hx, hb, hr, hml, hts, hown, hlocks, hnm⟩ := id E
  have hg : ∀ w ∈ gW, w.before args s = true := fun w h => hts w (List.mem_cons_of_mem _ h)
  have hown : s.vm.findClass "NurseryRow$Part" = some m.cls := hown
  have hl : lv_has ls 3 [(0, .ref h), (1, .int x)] := hl
  refine lv_aload_n hx hb dPt_take_0 rfl (lv_at hl 0 rfl) ?_
  refine gx_callp (C := "NurseryRow$Part") (As := []) (rest := []) E (qPt_end l D tys h (u.1, u.2.1, u.2.2.1, u.2.2.2)) (gx_cwV hts l_Pt_25 k_Pt_end ki_Pt_end ke_Pt_end z_Pt n_Pt_end ⟨by decide, by decide⟩) hK hP hD (va_recv hK hP (ci := 0) (q0 := 0) rfl rfl) hl.1 rfl rfl (Nat.le_of_ble_eq_true rfl) ⟨Nat.zero_le _, Nat.zero_le _⟩ dPt_take_1 ?_
  refine lv_istore_n (lv' := [(2, .int (u.1 + u.2.2.1)), (0, .ref h), (1, .int x)]) hx hb dPt_take_4 rfl hl (by decide) rfl (fun ls hl => ?_)
  refine lv_aload_n hx hb dPt_take_5 rfl (lv_at hl 1 rfl) ?_
  refine lv_dup hx hb dPt_take_6 rfl ?_
  refine va_get (C := RPt) (T := TPt) (N := 4) (ci := 0) (v := .int u.2.2.1) hx hb hg inPt hown hK hP 0 rfl rfl 2 (by decide) (hg _ f_Pt_19) (fun _ h9 => h9) rfl dPt_take_7 ?_
  refine lv_iload_n hx hb dPt_take_10 rfl (lv_at hl 2 rfl) ?_
  refine lv_iadd hx hb dPt_take_11 ?_
  refine va_put (C := RPt) (T := TPt) (N := 4) (ci := 0) (v := .int (u.2.2.1 + x)) hx hb hg inPt tyPt tyPt_ok nmPt hown hK hP hD hS 0 rfl rfl 2 (by decide) (hg _ f_Pt_19) (fun _ h9 => h9) rfl (tyPt_ok 2 (by decide)) rfl rfl (Nat.le_of_ble_eq_true rfl) dPt_take_12 (fun H locs hP hD hS => ?_)
  have hP : va_P D gC (ptW h (u.1, u.2.1, u.2.2.1 + x, u.2.2.2)) H := hP
  have hD : va_D A (ptW h (u.1, u.2.1, u.2.2.1 + x, u.2.2.2)) := hD
  refine lv_aload_n hx hb dPt_take_15 rfl (lv_at hl 1 rfl) ?_
  refine lv_dup hx hb dPt_take_16 rfl ?_
  refine va_get (C := RPt) (T := TPt) (N := 4) (ci := 0) (v := .int u.2.2.2) hx hb hg inPt hown hK hP 0 rfl rfl 3 (by decide) (hg _ f_Pt_22) (fun _ h9 => h9) rfl dPt_take_17 ?_
  refine lv_iconst (v := 1) hx hb dPt_take_20 (by decide) ?_
  refine lv_iadd hx hb dPt_take_21 ?_
  refine va_put (C := RPt) (T := TPt) (N := 4) (ci := 0) (v := .int (u.2.2.2 + 1)) hx hb hg inPt tyPt tyPt_ok nmPt hown hK hP hD hS 0 rfl rfl 3 (by decide) (hg _ f_Pt_22) (fun _ h9 => h9) rfl (tyPt_ok 3 (by decide)) rfl rfl (Nat.le_of_ble_eq_true rfl) dPt_take_22 (fun H locs hP hD hS => ?_)
  have hP : va_P D gC (ptW h (u.1, u.2.1, u.2.2.1 + x, u.2.2.2 + 1)) H := hP
  have hD : va_D A (ptW h (u.1, u.2.1, u.2.2.1 + x, u.2.2.2 + 1)) := hD
  refine lv_iload_n hx hb dPt_take_25 rfl (lv_at hl 0 rfl) ?_
  exact gx_iret (u := (u.1, u.2.1, u.2.2.1 + x, u.2.2.2 + 1)) E hK hP hD hS ⟨rfl, rfl⟩ dPt_take_26
end
section
/-! THE CLASS, its small methods -/
def isW (n lo hi : Int32) : Int32 := if n < lo then 0 else if hi < n then 0 else 1
set_option maxHeartbeats 4000000 in
set_option maxRecDepth 100000 in
/-- is n between? -/
theorem qNr_isWithin (l : Launch) (D : va_G) (tys : List (ClassId × FieldType)) (w : va_W) (n : Int32) (lo : Int32) (hi : Int32) : gx_Mp l yNr_isWithin (Cond.code yNr_isWithin cNr_isWithin 3 (some .boolean) :: gW) (gR 0) D gC tys w [.int n, .int lo, .int hi] (isW n lo hi) := by
  refine gx_Mp.of (cc := cNr_isWithin) (maxL := 3) (ret := (some .boolean)) (by decide) rfl (Nat.le_of_ble_eq_true rfl) ?_
  intro p e s m args below meth c ls E hK hP hD hl
  obtain ⟨hx, hb, hr, hml, hts, hown, hlocks, hnm⟩ := id E
  have hg : ∀ w ∈ gW, w.before args s = true := fun w h => hts w (List.mem_cons_of_mem _ h)
  have hown : s.vm.findClass "NurseryRow" = some m.cls := hown
  have hl : lv_has ls 3 [(0, .int n), (1, .int lo), (2, .int hi)] := hl
  refine lv_iload_n hx hb dNr_isWithin_0 rfl (lv_at hl 0 rfl) ?_
  refine lv_iload_n hx hb dNr_isWithin_1 rfl (lv_at hl 1 rfl) ?_
  refine lv_icmp_lt (tgt := 14) hx hb dNr_isWithin_2 (by decide) (fun c_2 => ?_) (fun c_2 => ?_)
  · refine lv_iconst (v := 0) hx hb dNr_isWithin_14 (by decide) ?_
    exact gx_zret E rfl (by simp [isW, c_2]) dNr_isWithin_15
  · refine lv_iload_n hx hb dNr_isWithin_5 rfl (lv_at hl 0 rfl) ?_
    refine lv_iload_n hx hb dNr_isWithin_6 rfl (lv_at hl 2 rfl) ?_
    refine lv_icmp_gt (tgt := 14) hx hb dNr_isWithin_7 (by decide) (fun c_7 => ?_) (fun c_7 => ?_)
    · refine lv_iconst (v := 0) hx hb dNr_isWithin_14 (by decide) ?_
      exact gx_zret E rfl (by simp [isW, c_2, c_7]) dNr_isWithin_15
    · refine lv_iconst (v := 1) hx hb dNr_isWithin_10 (by decide) ?_
      refine lv_goto (tgt := 15) hx hb dNr_isWithin_11 (by decide) ?_
      exact gx_zret E rfl (by simp [isW, c_2, c_7]) dNr_isWithin_15
def isR (n : Int32) : Int32 := if n < 0 then 0 else if 16 ≤ n then 0 else 1
set_option maxHeartbeats 4000000 in
set_option maxRecDepth 100000 in
/-- is there such a root? -/
theorem qNr_isRoot (l : Launch) (D : va_G) (tys : List (ClassId × FieldType)) (w : va_W) (n : Int32) : gx_Mp l yNr_isRoot (Cond.code yNr_isRoot cNr_isRoot 1 (some .boolean) :: gW) (gR 0) D gC tys w [.int n] (isR n) := by
  refine gx_Mp.of (cc := cNr_isRoot) (maxL := 1) (ret := (some .boolean)) (by decide) rfl (Nat.le_of_ble_eq_true rfl) ?_
  intro p e s m args below meth c ls E hK hP hD hl
  obtain ⟨hx, hb, hr, hml, hts, hown, hlocks, hnm⟩ := id E
  have hg : ∀ w ∈ gW, w.before args s = true := fun w h => hts w (List.mem_cons_of_mem _ h)
  have hown : s.vm.findClass "NurseryRow" = some m.cls := hown
  have hl : lv_has ls 1 [(0, .int n)] := hl
  refine lv_iload_n hx hb dNr_isRoot_0 rfl (lv_at hl 0 rfl) ?_
  refine lv_if_lt (tgt := 14) hx hb dNr_isRoot_1 (by decide) (fun c_1 => ?_) (fun c_1 => ?_)
  · refine lv_iconst (v := 0) hx hb dNr_isRoot_14 (by decide) ?_
    exact gx_zret E rfl (by simp [isR, c_1]) dNr_isRoot_15
  · refine lv_iload_n hx hb dNr_isRoot_4 rfl (lv_at hl 0 rfl) ?_
    refine lv_bipush (v := 16) hx hb dNr_isRoot_5 (by decide) ?_
    refine lv_icmp_ge (tgt := 14) hx hb dNr_isRoot_7 (by decide) (fun c_7 => ?_) (fun c_7 => ?_)
    · refine lv_iconst (v := 0) hx hb dNr_isRoot_14 (by decide) ?_
      exact gx_zret E rfl (by simp [isR, c_1, c_7]) dNr_isRoot_15
    · refine lv_iconst (v := 1) hx hb dNr_isRoot_10 (by decide) ?_
      refine lv_goto (tgt := 15) hx hb dNr_isRoot_11 (by decide) ?_
      exact gx_zret E rfl (by simp [isR, c_1, c_7]) dNr_isRoot_15
set_option maxHeartbeats 4000000 in
set_option maxRecDepth 100000 in
/-- how many cells in all -/
theorem qNr_allCells (l : Launch) (D : va_G) (cI cP : ClassId) (a : Nat → Nat) (σ : nSt) : gx_Mp l yNr_allCells (Cond.code yNr_allCells cNr_allCells 3 (some .int) :: gW) (gR 0) D gC (nrT cI cP) (nrW cI cP a σ) [.ref (a 0)] (0 + σ.P 0 1 + σ.P 1 1 + σ.P 2 1 + σ.P 3 1) := by
  refine gx_Mp.of (cc := cNr_allCells) (maxL := 3) (ret := (some .int)) (by decide) rfl (Nat.le_of_ble_eq_true rfl) ?_
  intro p e s m args below meth c ls E hK hP hD hl
  obtain ⟨hx, hb, hr, hml, hts, hown, hlocks, hnm⟩ := id E
  have hg : ∀ w ∈ gW, w.before args s = true := fun w h => hts w (List.mem_cons_of_mem _ h)
  have hown : s.vm.findClass "NurseryRow" = some m.cls := hown
  have hl : lv_has ls 3 [(0, .ref (a 0))] := hl
  refine lv_iconst (v := 0) hx hb dNr_allCells_0 (by decide) ?_
  refine lv_istore_n (lv' := [(1, .int 0), (0, .ref (a 0))]) hx hb dNr_allCells_1 rfl hl (by decide) rfl (fun ls hl => ?_)
  refine lv_iconst (v := 0) hx hb dNr_allCells_2 (by decide) ?_
  refine lv_istore_n (lv' := [(2, .int 0), (1, .int 0), (0, .ref (a 0))]) hx hb dNr_allCells_3 rfl hl (by decide) rfl (fun ls hl => ?_)
  refine lv_iload_n hx hb dNr_allCells_4 rfl (lv_at hl 0 rfl) ?_
  refine lv_iconst (v := 4) hx hb dNr_allCells_5 (by decide) ?_
  refine lv_icmp_ge (tgt := 27) hx hb dNr_allCells_6 (by decide) (fun c_6 => ?_) (fun c_6 => ?_)
  · exact absurd c_6 (by decide)
  · refine lv_iload_n hx hb dNr_allCells_9 rfl (lv_at hl 1 rfl) ?_
    refine lv_aload_n hx hb dNr_allCells_10 rfl (lv_at hl 2 rfl) ?_
    refine va_get (C := RNr) (T := TNr) (N := 10) (ci := 1) (v := .ref (a 1)) hx hb hg inNr hown hK hP 0 rfl rfl 0 (by decide) (hg _ f_Nr_11) (fun _ h9 => h9) rfl dNr_allCells_11 ?_
    refine lv_iload_n hx hb dNr_allCells_14 rfl (lv_at hl 0 rfl) ?_
    refine va_aldq hx hb hK hP 1 1 rfl rfl (by unfold vp_in; decide) dNr_allCells_15 ?_
    refine gx_stk (st' := [.ref (a (2 + 0)), .int 0]) rfl ?_
    refine va_get (C := RPt) (T := TPt) (N := 4) (ci := 0) (v := .int (σ.P 0 1)) hx hb hg inPt hown hK hP 2 rfl rfl 1 (by decide) (hg _ f_Nr_162) (fun _ h9 => h9) rfl dNr_allCells_16 ?_
    refine lv_iadd hx hb dNr_allCells_19 ?_
    refine lv_istore_n (lv' := [(1, .int (0 + (σ.P 0 1))), (2, .int 0), (0, .ref (a 0))]) hx hb dNr_allCells_20 rfl hl (by decide) rfl (fun ls hl => ?_)
    refine lv_iinc (v := 1) (lv' := [(2, .int 1), (1, .int (0 + (σ.P 0 1))), (0, .ref (a 0))]) hx hb dNr_allCells_21 hl (k := 1) rfl (by decide) (by decide) rfl (fun ls hl => ?_)
    refine lv_goto (tgt := 4) hx hb dNr_allCells_24 (by decide) ?_
    refine lv_iload_n hx hb dNr_allCells_4 rfl (lv_at hl 0 rfl) ?_
    refine lv_iconst (v := 4) hx hb dNr_allCells_5 (by decide) ?_
    refine lv_icmp_ge (tgt := 27) hx hb dNr_allCells_6 (by decide) (fun c_6' => ?_) (fun c_6' => ?_)
    · exact absurd c_6' (by decide)
    · refine lv_iload_n hx hb dNr_allCells_9 rfl (lv_at hl 1 rfl) ?_
      refine lv_aload_n hx hb dNr_allCells_10 rfl (lv_at hl 2 rfl) ?_
      refine va_get (C := RNr) (T := TNr) (N := 10) (ci := 1) (v := .ref (a 1)) hx hb hg inNr hown hK hP 0 rfl rfl 0 (by decide) (hg _ f_Nr_11) (fun _ h9 => h9) rfl dNr_allCells_11 ?_
      refine lv_iload_n hx hb dNr_allCells_14 rfl (lv_at hl 0 rfl) ?_
      refine va_aldq hx hb hK hP 1 1 rfl rfl (by unfold vp_in; decide) dNr_allCells_15 ?_
      refine gx_stk (st' := [.ref (a (2 + 1)), .int (0 + (σ.P 0 1))]) rfl ?_
      refine va_get (C := RPt) (T := TPt) (N := 4) (ci := 0) (v := .int (σ.P 1 1)) hx hb hg inPt hown hK hP 3 rfl rfl 1 (by decide) (hg _ f_Nr_162) (fun _ h9 => h9) rfl dNr_allCells_16 ?_
      refine lv_iadd hx hb dNr_allCells_19 ?_
      refine lv_istore_n (lv' := [(1, .int ((0 + (σ.P 0 1)) + (σ.P 1 1))), (2, .int 1), (0, .ref (a 0))]) hx hb dNr_allCells_20 rfl hl (by decide) rfl (fun ls hl => ?_)
      refine lv_iinc (v := 2) (lv' := [(2, .int 2), (1, .int ((0 + (σ.P 0 1)) + (σ.P 1 1))), (0, .ref (a 0))]) hx hb dNr_allCells_21 hl (k := 1) rfl (by decide) (by decide) rfl (fun ls hl => ?_)
      refine lv_goto (tgt := 4) hx hb dNr_allCells_24 (by decide) ?_
      refine lv_iload_n hx hb dNr_allCells_4 rfl (lv_at hl 0 rfl) ?_
      refine lv_iconst (v := 4) hx hb dNr_allCells_5 (by decide) ?_
      refine lv_icmp_ge (tgt := 27) hx hb dNr_allCells_6 (by decide) (fun c_6'' => ?_) (fun c_6'' => ?_)
      · exact absurd c_6'' (by decide)
      · refine lv_iload_n hx hb dNr_allCells_9 rfl (lv_at hl 1 rfl) ?_
        refine lv_aload_n hx hb dNr_allCells_10 rfl (lv_at hl 2 rfl) ?_
        refine va_get (C := RNr) (T := TNr) (N := 10) (ci := 1) (v := .ref (a 1)) hx hb hg inNr hown hK hP 0 rfl rfl 0 (by decide) (hg _ f_Nr_11) (fun _ h9 => h9) rfl dNr_allCells_11 ?_
        refine lv_iload_n hx hb dNr_allCells_14 rfl (lv_at hl 0 rfl) ?_
        refine va_aldq hx hb hK hP 1 1 rfl rfl (by unfold vp_in; decide) dNr_allCells_15 ?_
        refine gx_stk (st' := [.ref (a (2 + 2)), .int ((0 + (σ.P 0 1)) + (σ.P 1 1))]) rfl ?_
        refine va_get (C := RPt) (T := TPt) (N := 4) (ci := 0) (v := .int (σ.P 2 1)) hx hb hg inPt hown hK hP 4 rfl rfl 1 (by decide) (hg _ f_Nr_162) (fun _ h9 => h9) rfl dNr_allCells_16 ?_
        refine lv_iadd hx hb dNr_allCells_19 ?_
        refine lv_istore_n (lv' := [(1, .int (((0 + (σ.P 0 1)) + (σ.P 1 1)) + (σ.P 2 1))), (2, .int 2), (0, .ref (a 0))]) hx hb dNr_allCells_20 rfl hl (by decide) rfl (fun ls hl => ?_)
        refine lv_iinc (v := 3) (lv' := [(2, .int 3), (1, .int (((0 + (σ.P 0 1)) + (σ.P 1 1)) + (σ.P 2 1))), (0, .ref (a 0))]) hx hb dNr_allCells_21 hl (k := 1) rfl (by decide) (by decide) rfl (fun ls hl => ?_)
        refine lv_goto (tgt := 4) hx hb dNr_allCells_24 (by decide) ?_
        refine lv_iload_n hx hb dNr_allCells_4 rfl (lv_at hl 0 rfl) ?_
        refine lv_iconst (v := 4) hx hb dNr_allCells_5 (by decide) ?_
        refine lv_icmp_ge (tgt := 27) hx hb dNr_allCells_6 (by decide) (fun c_6''' => ?_) (fun c_6''' => ?_)
        · exact absurd c_6''' (by decide)
        · refine lv_iload_n hx hb dNr_allCells_9 rfl (lv_at hl 1 rfl) ?_
          refine lv_aload_n hx hb dNr_allCells_10 rfl (lv_at hl 2 rfl) ?_
          refine va_get (C := RNr) (T := TNr) (N := 10) (ci := 1) (v := .ref (a 1)) hx hb hg inNr hown hK hP 0 rfl rfl 0 (by decide) (hg _ f_Nr_11) (fun _ h9 => h9) rfl dNr_allCells_11 ?_
          refine lv_iload_n hx hb dNr_allCells_14 rfl (lv_at hl 0 rfl) ?_
          refine va_aldq hx hb hK hP 1 1 rfl rfl (by unfold vp_in; decide) dNr_allCells_15 ?_
          refine gx_stk (st' := [.ref (a (2 + 3)), .int (((0 + (σ.P 0 1)) + (σ.P 1 1)) + (σ.P 2 1))]) rfl ?_
          refine va_get (C := RPt) (T := TPt) (N := 4) (ci := 0) (v := .int (σ.P 3 1)) hx hb hg inPt hown hK hP 5 rfl rfl 1 (by decide) (hg _ f_Nr_162) (fun _ h9 => h9) rfl dNr_allCells_16 ?_
          refine lv_iadd hx hb dNr_allCells_19 ?_
          refine lv_istore_n (lv' := [(1, .int ((((0 + (σ.P 0 1)) + (σ.P 1 1)) + (σ.P 2 1)) + (σ.P 3 1))), (2, .int 3), (0, .ref (a 0))]) hx hb dNr_allCells_20 rfl hl (by decide) rfl (fun ls hl => ?_)
          refine lv_iinc (v := 4) (lv' := [(2, .int 4), (1, .int ((((0 + (σ.P 0 1)) + (σ.P 1 1)) + (σ.P 2 1)) + (σ.P 3 1))), (0, .ref (a 0))]) hx hb dNr_allCells_21 hl (k := 1) rfl (by decide) (by decide) rfl (fun ls hl => ?_)
          refine lv_goto (tgt := 4) hx hb dNr_allCells_24 (by decide) ?_
          refine lv_iload_n hx hb dNr_allCells_4 rfl (lv_at hl 0 rfl) ?_
          refine lv_iconst (v := 4) hx hb dNr_allCells_5 (by decide) ?_
          refine lv_icmp_ge (tgt := 27) hx hb dNr_allCells_6 (by decide) (fun c_6'''' => ?_) (fun c_6'''' => ?_)
          · refine lv_iload_n hx hb dNr_allCells_27 rfl (lv_at hl 1 rfl) ?_
            exact gx_pret E rfl dNr_allCells_28
          · exact absurd c_6'''' (by decide)
set_option maxHeartbeats 4000000 in
set_option maxRecDepth 100000 in
/-- all parts, empty -/
theorem qNr_layParts (l : Launch) (D : va_G) (cI cP : ClassId) (a : Nat → Nat) (σ : nSt) (x : Int32) (y : Int32) (z : Int32) : gx_Mv l yNr_layParts (Cond.code yNr_layParts cNr_layParts 4 none :: gW) (gR 2) D gC (nrT cI cP) (nrW cI cP a) σ [.ref (a 0), .int x, .int y, .int z] (fun u => u = (((σ.sP 0 (1, x, 0, 0)).sP 1 (1 + x, y, 0, 0)).sP 2 (1 + x + y, y, 0, 0)).sP 3 (1 + x + 2 * y, z, 0, 0)) := by
  refine gx_Mv.of (cc := cNr_layParts) (maxL := 4) (by decide) rfl (Nat.le_of_ble_eq_true rfl) ?_
  intro p e s m args below meth c ls A E hA hK hP hD hS hl
  obtain ⟨hx, hb, hr, hml, hts, hown, hlocks, hnm⟩ := id E
  have hg : ∀ w ∈ gW, w.before args s = true := fun w h => hts w (List.mem_cons_of_mem _ h)
  have hown : s.vm.findClass "NurseryRow" = some m.cls := hown
  have hl : lv_has ls 4 [(0, .ref (a 0)), (1, .int x), (2, .int y), (3, .int z)] := hl
  refine lv_aload_n hx hb dNr_layParts_0 rfl (lv_at hl 0 rfl) ?_
  refine va_get (C := RNr) (T := TNr) (N := 10) (ci := 1) (v := .ref (a 1)) hx hb hg inNr hown hK hP 0 rfl rfl 0 (by decide) (hg _ f_Nr_11) (fun _ h9 => h9) rfl dNr_layParts_1 ?_
  refine lv_iconst (v := 0) hx hb dNr_layParts_4 (by decide) ?_
  refine va_aldq hx hb hK hP 1 1 rfl rfl (by unfold vp_in; decide) dNr_layParts_5 ?_
  refine gx_stk (st' := [.ref (a (2 + 0))]) rfl ?_
  refine lv_iconst (v := 1) hx hb dNr_layParts_6 (by decide) ?_
  refine lv_iload_n hx hb dNr_layParts_7 rfl (lv_at hl 1 rfl) ?_
  refine gx_callv (C := "NurseryRow$Part") (As := [.int 1, .int x]) (rest := []) E (nr_liftv (i := 0) (by decide) (qPt_lay l D _ (a (2 + 0)) (σ.p 0) 1 x)) (gx_cwV hts l_Nr_158 k_Pt_lay ki_Pt_lay ke_Pt_lay z_Pt n_Pt_lay ⟨by decide, by decide⟩) hK hP hD hS hA (va_recv hK hP (ci := 0) (q0 := 2) rfl rfl) hl.1 rfl rfl (Nat.le_of_ble_eq_true rfl) ⟨by decide, by decide⟩ dNr_layParts_8 (fun u_2 H locs hq_3 hP hD hS => ?_)
  obtain ⟨v, hv, hu⟩ := hq_3
  subst hu; subst hv
  have hP : va_P D gC (nrW cI cP a (σ.sP 0 (1, x, 0, 0))) H := hP
  have hD : va_D A (nrW cI cP a (σ.sP 0 (1, x, 0, 0))) := hD
  refine lv_aload_n hx hb dNr_layParts_11 rfl (lv_at hl 0 rfl) ?_
  refine va_get (C := RNr) (T := TNr) (N := 10) (ci := 1) (v := .ref (a 1)) hx hb hg inNr hown hK hP 0 rfl rfl 0 (by decide) (hg _ f_Nr_11) (fun _ h9 => h9) rfl dNr_layParts_12 ?_
  refine lv_iconst (v := 1) hx hb dNr_layParts_15 (by decide) ?_
  refine va_aldq hx hb hK hP 1 1 rfl rfl (by unfold vp_in; decide) dNr_layParts_16 ?_
  refine gx_stk (st' := [.ref (a (2 + 1))]) rfl ?_
  refine lv_iconst (v := 1) hx hb dNr_layParts_17 (by decide) ?_
  refine lv_iload_n hx hb dNr_layParts_18 rfl (lv_at hl 1 rfl) ?_
  refine lv_iadd hx hb dNr_layParts_19 ?_
  refine lv_iload_n hx hb dNr_layParts_20 rfl (lv_at hl 2 rfl) ?_
  refine gx_callv (C := "NurseryRow$Part") (As := [.int (1 + x), .int y]) (rest := []) E (nr_liftv (i := 1) (by decide) (qPt_lay l D _ (a (2 + 1)) ((σ.sP 0 (1, x, 0, 0)).p 1) (1 + x) y)) (gx_cwV hts l_Nr_158 k_Pt_lay ki_Pt_lay ke_Pt_lay z_Pt n_Pt_lay ⟨by decide, by decide⟩) hK hP hD hS hA (va_recv hK hP (ci := 0) (q0 := 3) rfl rfl) hl.1 rfl rfl (Nat.le_of_ble_eq_true rfl) ⟨by decide, by decide⟩ dNr_layParts_21 (fun u_5 H locs hq_6 hP hD hS => ?_)
  obtain ⟨v, hv, hu⟩ := hq_6
  subst hu; subst hv
  have hP : va_P D gC (nrW cI cP a ((σ.sP 0 (1, x, 0, 0)).sP 1 (1 + x, y, 0, 0))) H := hP
  have hD : va_D A (nrW cI cP a ((σ.sP 0 (1, x, 0, 0)).sP 1 (1 + x, y, 0, 0))) := hD
  refine lv_aload_n hx hb dNr_layParts_24 rfl (lv_at hl 0 rfl) ?_
  refine va_get (C := RNr) (T := TNr) (N := 10) (ci := 1) (v := .ref (a 1)) hx hb hg inNr hown hK hP 0 rfl rfl 0 (by decide) (hg _ f_Nr_11) (fun _ h9 => h9) rfl dNr_layParts_25 ?_
  refine lv_iconst (v := 2) hx hb dNr_layParts_28 (by decide) ?_
  refine va_aldq hx hb hK hP 1 1 rfl rfl (by unfold vp_in; decide) dNr_layParts_29 ?_
  refine gx_stk (st' := [.ref (a (2 + 2))]) rfl ?_
  refine lv_iconst (v := 1) hx hb dNr_layParts_30 (by decide) ?_
  refine lv_iload_n hx hb dNr_layParts_31 rfl (lv_at hl 1 rfl) ?_
  refine lv_iadd hx hb dNr_layParts_32 ?_
  refine lv_iload_n hx hb dNr_layParts_33 rfl (lv_at hl 2 rfl) ?_
  refine lv_iadd hx hb dNr_layParts_34 ?_
  refine lv_iload_n hx hb dNr_layParts_35 rfl (lv_at hl 2 rfl) ?_
  refine gx_callv (C := "NurseryRow$Part") (As := [.int ((1 + x) + y), .int y]) (rest := []) E (nr_liftv (i := 2) (by decide) (qPt_lay l D _ (a (2 + 2)) (((σ.sP 0 (1, x, 0, 0)).sP 1 (1 + x, y, 0, 0)).p 2) ((1 + x) + y) y)) (gx_cwV hts l_Nr_158 k_Pt_lay ki_Pt_lay ke_Pt_lay z_Pt n_Pt_lay ⟨by decide, by decide⟩) hK hP hD hS hA (va_recv hK hP (ci := 0) (q0 := 4) rfl rfl) hl.1 rfl rfl (Nat.le_of_ble_eq_true rfl) ⟨by decide, by decide⟩ dNr_layParts_36 (fun u_8 H locs hq_9 hP hD hS => ?_)
  obtain ⟨v, hv, hu⟩ := hq_9
  subst hu; subst hv
  have hP : va_P D gC (nrW cI cP a (((σ.sP 0 (1, x, 0, 0)).sP 1 (1 + x, y, 0, 0)).sP 2 ((1 + x) + y, y, 0, 0))) H := hP
  have hD : va_D A (nrW cI cP a (((σ.sP 0 (1, x, 0, 0)).sP 1 (1 + x, y, 0, 0)).sP 2 ((1 + x) + y, y, 0, 0))) := hD
  refine lv_aload_n hx hb dNr_layParts_39 rfl (lv_at hl 0 rfl) ?_
  refine va_get (C := RNr) (T := TNr) (N := 10) (ci := 1) (v := .ref (a 1)) hx hb hg inNr hown hK hP 0 rfl rfl 0 (by decide) (hg _ f_Nr_11) (fun _ h9 => h9) rfl dNr_layParts_40 ?_
  refine lv_iconst (v := 3) hx hb dNr_layParts_43 (by decide) ?_
  refine va_aldq hx hb hK hP 1 1 rfl rfl (by unfold vp_in; decide) dNr_layParts_44 ?_
  refine gx_stk (st' := [.ref (a (2 + 3))]) rfl ?_
  refine lv_iconst (v := 1) hx hb dNr_layParts_45 (by decide) ?_
  refine lv_iload_n hx hb dNr_layParts_46 rfl (lv_at hl 1 rfl) ?_
  refine lv_iadd hx hb dNr_layParts_47 ?_
  refine lv_iconst (v := 2) hx hb dNr_layParts_48 (by decide) ?_
  refine lv_iload_n hx hb dNr_layParts_49 rfl (lv_at hl 2 rfl) ?_
  refine lv_imul hx hb dNr_layParts_50 ?_
  refine lv_iadd hx hb dNr_layParts_51 ?_
  refine lv_iload_n hx hb dNr_layParts_52 rfl (lv_at hl 3 rfl) ?_
  refine gx_callv (C := "NurseryRow$Part") (As := [.int ((1 + x) + (2 * y)), .int z]) (rest := []) E (nr_liftv (i := 3) (by decide) (qPt_lay l D _ (a (2 + 3)) ((((σ.sP 0 (1, x, 0, 0)).sP 1 (1 + x, y, 0, 0)).sP 2 ((1 + x) + y, y, 0, 0)).p 3) ((1 + x) + (2 * y)) z)) (gx_cwV hts l_Nr_158 k_Pt_lay ki_Pt_lay ke_Pt_lay z_Pt n_Pt_lay ⟨by decide, by decide⟩) hK hP hD hS hA (va_recv hK hP (ci := 0) (q0 := 5) rfl rfl) hl.1 rfl rfl (Nat.le_of_ble_eq_true rfl) ⟨by decide, by decide⟩ dNr_layParts_53 (fun u_11 H locs hq_12 hP hD hS => ?_)
  obtain ⟨v, hv, hu⟩ := hq_12
  subst hu; subst hv
  have hP : va_P D gC (nrW cI cP a ((((σ.sP 0 (1, x, 0, 0)).sP 1 (1 + x, y, 0, 0)).sP 2 ((1 + x) + y, y, 0, 0)).sP 3 ((1 + x) + (2 * y), z, 0, 0))) H := hP
  have hD : va_D A (nrW cI cP a ((((σ.sP 0 (1, x, 0, 0)).sP 1 (1 + x, y, 0, 0)).sP 2 ((1 + x) + y, y, 0, 0)).sP 3 ((1 + x) + (2 * y), z, 0, 0))) := hD
  exact gx_vret (u := (((σ.sP 0 (1, x, 0, 0)).sP 1 (1 + x, y, 0, 0)).sP 2 ((1 + x) + y, y, 0, 0)).sP 3 ((1 + x) + (2 * y), z, 0, 0)) E hK hP hD hS rfl dNr_layParts_56
set_option maxHeartbeats 4000000 in
set_option maxRecDepth 100000 in
/-- an object's size -/
theorem qNr_sizeAt (l : Launch) (D : va_G) (cI cP : ClassId) (a : Nat → Nat) (σ : nSt) (k : Nat) (hk : k + 1 < σ.N) (hN : σ.N < 2 ^ 31) : gx_Mp l yNr_sizeAt (Cond.code yNr_sizeAt cNr_sizeAt 2 (some .int) :: gW) (gR 0) D gC (nrT cI cP) (nrW cI cP a σ) [.ref (a 0), .int (nI k)] (3 + σ.X k + σ.X (k + 1)) := by
  refine gx_Mp.of (cc := cNr_sizeAt) (maxL := 2) (ret := (some .int)) (by decide) rfl (Nat.le_of_ble_eq_true rfl) ?_
  intro p e s m args below meth c ls E hK hP hD hl
  obtain ⟨hx, hb, hr, hml, hts, hown, hlocks, hnm⟩ := id E
  have hg : ∀ w ∈ gW, w.before args s = true := fun w h => hts w (List.mem_cons_of_mem _ h)
  have hown : s.vm.findClass "NurseryRow" = some m.cls := hown
  have hl : lv_has ls 2 [(0, .ref (a 0)), (1, .int (nI k))] := hl
  refine lv_iconst (v := 3) hx hb dNr_sizeAt_0 (by decide) ?_
  refine lv_aload_n hx hb dNr_sizeAt_1 rfl (lv_at hl 0 rfl) ?_
  refine va_get (C := RNr) (T := TNr) (N := 10) (ci := 1) (v := .ref σ.hx) hx hb hg inNr hown hK hP 0 rfl rfl 3 (by decide) (hg _ f_Nr_23) (fun _ h9 => h9) rfl dNr_sizeAt_2 ?_
  refine lv_iload_n hx hb dNr_sizeAt_5 rfl (lv_at hl 1 rfl) ?_
  refine va_iald hx hb hK hP 8 0 rfl rfl (vp_in_nI (Nat.lt_of_succ_lt hk) hN) dNr_sizeAt_6 ?_
  refine gx_top (z := σ.X k) (by rw [nI_clamp (Nat.lt_trans (Nat.lt_of_succ_lt hk) hN)]) ?_
  refine lv_iadd hx hb dNr_sizeAt_7 ?_
  refine lv_aload_n hx hb dNr_sizeAt_8 rfl (lv_at hl 0 rfl) ?_
  refine va_get (C := RNr) (T := TNr) (N := 10) (ci := 1) (v := .ref σ.hx) hx hb hg inNr hown hK hP 0 rfl rfl 3 (by decide) (hg _ f_Nr_23) (fun _ h9 => h9) rfl dNr_sizeAt_9 ?_
  refine lv_iload_n hx hb dNr_sizeAt_12 rfl (lv_at hl 1 rfl) ?_
  refine lv_iconst (v := 1) hx hb dNr_sizeAt_13 (by decide) ?_
  refine lv_iadd hx hb dNr_sizeAt_14 ?_
  refine gx_top (z := nI (k + 1)) (nI_1 k) ?_
  refine va_iald hx hb hK hP 8 0 rfl rfl (vp_in_nI hk hN) dNr_sizeAt_15 ?_
  refine gx_top (z := σ.X (k + 1)) (by rw [nI_clamp (Nat.lt_trans hk hN)]) ?_
  refine lv_iadd hx hb dNr_sizeAt_16 ?_
  exact gx_pret E rfl dNr_sizeAt_17
/-- which part covers x; 4 if none -/
def pOf (σ : nSt) (x : Int32) : Int32 := if ptCov (σ.P 0 0) (σ.P 0 2) x = 0 then (if ptCov (σ.P 1 0) (σ.P 1 2) x = 0 then (if ptCov (σ.P 2 0) (σ.P 2 2) x = 0 then (if ptCov (σ.P 3 0) (σ.P 3 2) x = 0 then 4 else 3) else 2) else 1) else 0
set_option maxHeartbeats 4000000 in
set_option maxRecDepth 100000 in
/-- which part covers x -/
theorem qNr_partOf (l : Launch) (D : va_G) (cI cP : ClassId) (a : Nat → Nat) (σ : nSt) (x : Int32) : gx_Mp l yNr_partOf (Cond.code yNr_partOf cNr_partOf 3 (some .int) :: gW) (gR 2) D gC (nrT cI cP) (nrW cI cP a σ) [.ref (a 0), .int x] (pOf σ x) := by
  refine gx_Mp.of (cc := cNr_partOf) (maxL := 3) (ret := (some .int)) (by decide) rfl (Nat.le_of_ble_eq_true rfl) ?_
  intro p e s m args below meth c ls E hK hP hD hl
  obtain ⟨hx, hb, hr, hml, hts, hown, hlocks, hnm⟩ := id E
  have hg : ∀ w ∈ gW, w.before args s = true := fun w h => hts w (List.mem_cons_of_mem _ h)
  have hown : s.vm.findClass "NurseryRow" = some m.cls := hown
  have hl : lv_has ls 3 [(0, .ref (a 0)), (1, .int x)] := hl
  refine lv_iconst (v := 0) hx hb dNr_partOf_0 (by decide) ?_
  refine lv_istore_n (lv' := [(2, .int 0), (0, .ref (a 0)), (1, .int x)]) hx hb dNr_partOf_1 rfl hl (by decide) rfl (fun ls hl => ?_)
  refine lv_iload_n hx hb dNr_partOf_2 rfl (lv_at hl 0 rfl) ?_
  refine lv_iconst (v := 4) hx hb dNr_partOf_3 (by decide) ?_
  refine lv_icmp_ge (tgt := 28) hx hb dNr_partOf_4 (by decide) (fun c_4 => ?_) (fun c_4 => ?_)
  · exact absurd c_4 (by decide)
  · refine lv_aload_n hx hb dNr_partOf_7 rfl (lv_at hl 1 rfl) ?_
    refine va_get (C := RNr) (T := TNr) (N := 10) (ci := 1) (v := .ref (a 1)) hx hb hg inNr hown hK hP 0 rfl rfl 0 (by decide) (hg _ f_Nr_11) (fun _ h9 => h9) rfl dNr_partOf_8 ?_
    refine lv_iload_n hx hb dNr_partOf_11 rfl (lv_at hl 0 rfl) ?_
    refine va_aldq hx hb hK hP 1 1 rfl rfl (by unfold vp_in; decide) dNr_partOf_12 ?_
    refine gx_stk (st' := [.ref (a (2 + 0))]) rfl ?_
    refine lv_iload_n hx hb dNr_partOf_13 rfl (lv_at hl 2 rfl) ?_
    refine gx_callp (C := "NurseryRow$Part") (As := [.int x]) (rest := []) E (nr_liftp (i := 0) (by decide) (qPt_covers l D _ (a (2 + 0)) (σ.p 0) x)) (gx_cwV hts l_Nr_153 k_Pt_covers ki_Pt_covers ke_Pt_covers z_Pt n_Pt_covers ⟨by decide, by decide⟩) hK hP hD (va_recv hK hP (ci := 0) (q0 := 2) rfl rfl) hl.1 rfl rfl (Nat.le_of_ble_eq_true rfl) ⟨Nat.zero_le _, Nat.zero_le _⟩ dNr_partOf_14 ?_
    refine gx_top (z := ptCov (σ.P 0 0) (σ.P 0 2) x) rfl ?_
    refine lv_if_eq (tgt := 22) hx hb dNr_partOf_17 (by decide) (fun c_17 => ?_) (fun c_17 => ?_)
    · refine lv_iinc (v := 1) (lv' := [(2, .int 1), (0, .ref (a 0)), (1, .int x)]) hx hb dNr_partOf_22 hl (k := 0) rfl (by decide) (by decide) rfl (fun ls hl => ?_)
      refine lv_goto (tgt := 2) hx hb dNr_partOf_25 (by decide) ?_
      refine lv_iload_n hx hb dNr_partOf_2 rfl (lv_at hl 0 rfl) ?_
      refine lv_iconst (v := 4) hx hb dNr_partOf_3 (by decide) ?_
      refine lv_icmp_ge (tgt := 28) hx hb dNr_partOf_4 (by decide) (fun c_4' => ?_) (fun c_4' => ?_)
      · exact absurd c_4' (by decide)
      · refine lv_aload_n hx hb dNr_partOf_7 rfl (lv_at hl 1 rfl) ?_
        refine va_get (C := RNr) (T := TNr) (N := 10) (ci := 1) (v := .ref (a 1)) hx hb hg inNr hown hK hP 0 rfl rfl 0 (by decide) (hg _ f_Nr_11) (fun _ h9 => h9) rfl dNr_partOf_8 ?_
        refine lv_iload_n hx hb dNr_partOf_11 rfl (lv_at hl 0 rfl) ?_
        refine va_aldq hx hb hK hP 1 1 rfl rfl (by unfold vp_in; decide) dNr_partOf_12 ?_
        refine gx_stk (st' := [.ref (a (2 + 1))]) rfl ?_
        refine lv_iload_n hx hb dNr_partOf_13 rfl (lv_at hl 2 rfl) ?_
        refine gx_callp (C := "NurseryRow$Part") (As := [.int x]) (rest := []) E (nr_liftp (i := 1) (by decide) (qPt_covers l D _ (a (2 + 1)) (σ.p 1) x)) (gx_cwV hts l_Nr_153 k_Pt_covers ki_Pt_covers ke_Pt_covers z_Pt n_Pt_covers ⟨by decide, by decide⟩) hK hP hD (va_recv hK hP (ci := 0) (q0 := 3) rfl rfl) hl.1 rfl rfl (Nat.le_of_ble_eq_true rfl) ⟨Nat.zero_le _, Nat.zero_le _⟩ dNr_partOf_14 ?_
        refine gx_top (z := ptCov (σ.P 1 0) (σ.P 1 2) x) rfl ?_
        refine lv_if_eq (tgt := 22) hx hb dNr_partOf_17 (by decide) (fun c_17' => ?_) (fun c_17' => ?_)
        · refine lv_iinc (v := 2) (lv' := [(2, .int 2), (0, .ref (a 0)), (1, .int x)]) hx hb dNr_partOf_22 hl (k := 0) rfl (by decide) (by decide) rfl (fun ls hl => ?_)
          refine lv_goto (tgt := 2) hx hb dNr_partOf_25 (by decide) ?_
          refine lv_iload_n hx hb dNr_partOf_2 rfl (lv_at hl 0 rfl) ?_
          refine lv_iconst (v := 4) hx hb dNr_partOf_3 (by decide) ?_
          refine lv_icmp_ge (tgt := 28) hx hb dNr_partOf_4 (by decide) (fun c_4'' => ?_) (fun c_4'' => ?_)
          · exact absurd c_4'' (by decide)
          · refine lv_aload_n hx hb dNr_partOf_7 rfl (lv_at hl 1 rfl) ?_
            refine va_get (C := RNr) (T := TNr) (N := 10) (ci := 1) (v := .ref (a 1)) hx hb hg inNr hown hK hP 0 rfl rfl 0 (by decide) (hg _ f_Nr_11) (fun _ h9 => h9) rfl dNr_partOf_8 ?_
            refine lv_iload_n hx hb dNr_partOf_11 rfl (lv_at hl 0 rfl) ?_
            refine va_aldq hx hb hK hP 1 1 rfl rfl (by unfold vp_in; decide) dNr_partOf_12 ?_
            refine gx_stk (st' := [.ref (a (2 + 2))]) rfl ?_
            refine lv_iload_n hx hb dNr_partOf_13 rfl (lv_at hl 2 rfl) ?_
            refine gx_callp (C := "NurseryRow$Part") (As := [.int x]) (rest := []) E (nr_liftp (i := 2) (by decide) (qPt_covers l D _ (a (2 + 2)) (σ.p 2) x)) (gx_cwV hts l_Nr_153 k_Pt_covers ki_Pt_covers ke_Pt_covers z_Pt n_Pt_covers ⟨by decide, by decide⟩) hK hP hD (va_recv hK hP (ci := 0) (q0 := 4) rfl rfl) hl.1 rfl rfl (Nat.le_of_ble_eq_true rfl) ⟨Nat.zero_le _, Nat.zero_le _⟩ dNr_partOf_14 ?_
            refine gx_top (z := ptCov (σ.P 2 0) (σ.P 2 2) x) rfl ?_
            refine lv_if_eq (tgt := 22) hx hb dNr_partOf_17 (by decide) (fun c_17'' => ?_) (fun c_17'' => ?_)
            · refine lv_iinc (v := 3) (lv' := [(2, .int 3), (0, .ref (a 0)), (1, .int x)]) hx hb dNr_partOf_22 hl (k := 0) rfl (by decide) (by decide) rfl (fun ls hl => ?_)
              refine lv_goto (tgt := 2) hx hb dNr_partOf_25 (by decide) ?_
              refine lv_iload_n hx hb dNr_partOf_2 rfl (lv_at hl 0 rfl) ?_
              refine lv_iconst (v := 4) hx hb dNr_partOf_3 (by decide) ?_
              refine lv_icmp_ge (tgt := 28) hx hb dNr_partOf_4 (by decide) (fun c_4''' => ?_) (fun c_4''' => ?_)
              · exact absurd c_4''' (by decide)
              · refine lv_aload_n hx hb dNr_partOf_7 rfl (lv_at hl 1 rfl) ?_
                refine va_get (C := RNr) (T := TNr) (N := 10) (ci := 1) (v := .ref (a 1)) hx hb hg inNr hown hK hP 0 rfl rfl 0 (by decide) (hg _ f_Nr_11) (fun _ h9 => h9) rfl dNr_partOf_8 ?_
                refine lv_iload_n hx hb dNr_partOf_11 rfl (lv_at hl 0 rfl) ?_
                refine va_aldq hx hb hK hP 1 1 rfl rfl (by unfold vp_in; decide) dNr_partOf_12 ?_
                refine gx_stk (st' := [.ref (a (2 + 3))]) rfl ?_
                refine lv_iload_n hx hb dNr_partOf_13 rfl (lv_at hl 2 rfl) ?_
                refine gx_callp (C := "NurseryRow$Part") (As := [.int x]) (rest := []) E (nr_liftp (i := 3) (by decide) (qPt_covers l D _ (a (2 + 3)) (σ.p 3) x)) (gx_cwV hts l_Nr_153 k_Pt_covers ki_Pt_covers ke_Pt_covers z_Pt n_Pt_covers ⟨by decide, by decide⟩) hK hP hD (va_recv hK hP (ci := 0) (q0 := 5) rfl rfl) hl.1 rfl rfl (Nat.le_of_ble_eq_true rfl) ⟨Nat.zero_le _, Nat.zero_le _⟩ dNr_partOf_14 ?_
                refine gx_top (z := ptCov (σ.P 3 0) (σ.P 3 2) x) rfl ?_
                refine lv_if_eq (tgt := 22) hx hb dNr_partOf_17 (by decide) (fun c_17''' => ?_) (fun c_17''' => ?_)
                · refine lv_iinc (v := 4) (lv' := [(2, .int 4), (0, .ref (a 0)), (1, .int x)]) hx hb dNr_partOf_22 hl (k := 0) rfl (by decide) (by decide) rfl (fun ls hl => ?_)
                  refine lv_goto (tgt := 2) hx hb dNr_partOf_25 (by decide) ?_
                  refine lv_iload_n hx hb dNr_partOf_2 rfl (lv_at hl 0 rfl) ?_
                  refine lv_iconst (v := 4) hx hb dNr_partOf_3 (by decide) ?_
                  refine lv_icmp_ge (tgt := 28) hx hb dNr_partOf_4 (by decide) (fun c_4'''' => ?_) (fun c_4'''' => ?_)
                  · refine lv_iconst (v := 4) hx hb dNr_partOf_28 (by decide) ?_
                    exact gx_pret E (by simp [pOf, c_4, c_17, c_4', c_17', c_4'', c_17'', c_4''', c_17''', c_4'''']) dNr_partOf_29
                  · exact absurd c_4'''' (by decide)
                · refine lv_iload_n hx hb dNr_partOf_20 rfl (lv_at hl 0 rfl) ?_
                  exact gx_pret E (by simp [pOf, c_4, c_17, c_4', c_17', c_4'', c_17'', c_4''', c_17''']) dNr_partOf_21
            · refine lv_iload_n hx hb dNr_partOf_20 rfl (lv_at hl 0 rfl) ?_
              exact gx_pret E (by simp [pOf, c_4, c_17, c_4', c_17', c_4'', c_17'']) dNr_partOf_21
        · refine lv_iload_n hx hb dNr_partOf_20 rfl (lv_at hl 0 rfl) ?_
          exact gx_pret E (by simp [pOf, c_4, c_17, c_4', c_17']) dNr_partOf_21
    · refine lv_iload_n hx hb dNr_partOf_20 rfl (lv_at hl 0 rfl) ?_
      exact gx_pret E (by simp [pOf, c_4, c_17]) dNr_partOf_21
/-- the first object from part i on -/
def fF (σ : nSt) (i : Nat) : Int32 := match i with
  | 0 => if σ.P 0 3 ≤ 0 then (if σ.P 1 3 ≤ 0 then (if σ.P 2 3 ≤ 0 then (if σ.P 3 3 ≤ 0 then 0 else σ.P 3 0) else σ.P 2 0) else σ.P 1 0) else σ.P 0 0
  | 1 => if σ.P 1 3 ≤ 0 then (if σ.P 2 3 ≤ 0 then (if σ.P 3 3 ≤ 0 then 0 else σ.P 3 0) else σ.P 2 0) else σ.P 1 0
  | 2 => if σ.P 2 3 ≤ 0 then (if σ.P 3 3 ≤ 0 then 0 else σ.P 3 0) else σ.P 2 0
  | 3 => if σ.P 3 3 ≤ 0 then 0 else σ.P 3 0
  | _ => 0
end
section
/-! HOW OBJECTS LIE: one behind the other -/
/-- the size of the object at k -/
def szX (X : Nat → Int32) (k : Nat) : Nat := 3 + (X k).toNatClampNeg + (X (k + 1)).toNatClampNeg
/-- the address of the n-th object from f on -/
def ch (X : Nat → Int32) (f : Nat) : Nat → Nat
  | 0 => f
  | n + 1 => ch X f n + szX X (ch X f n)
theorem ch_le (X : Nat → Int32) (f : Nat) : ∀ n m : Nat, n ≤ m → ch X f n + 3 * (m - n) ≤ ch X f m := by
  intro n m h
  induction m with
  | zero => have : n = 0 := by omega
            subst this; simp
  | succ m ih =>
    by_cases e : n = m + 1
    · subst e; simp
    · have := ih (by omega)
      simp only [ch, szX]
      omega
theorem ch_lt (X : Nat → Int32) (f : Nat) {n m : Nat} (h : n < m) : ch X f n + 3 ≤ ch X f m := by
  have := ch_le X f n m (by omega)
  omega
theorem ch_ge (X : Nat → Int32) (f n : Nat) : f + 3 * n ≤ ch X f n := by
  have h := ch_le X f 0 n (Nat.zero_le _)
  simpa [ch] using h
theorem ch_inj (X : Nat → Int32) (f : Nat) {n m : Nat} (h : ch X f n = ch X f m) : n = m := by
  rcases Nat.lt_trichotomy n m with q | q | q
  · have := ch_lt X f q; omega
  · exact q
  · have := ch_lt X f q; omega
/-- n objects lie from f on, in us cells -/
def Lay (X : Nat → Int32) (f us n : Nat) : Prop :=
  ch X f n = f + us ∧ ∀ k, k < n → ∃ nf nw : Nat, nf ≤ 200 ∧ nw ≤ 200 ∧ X (ch X f k) = nI nf ∧ X (ch X f k + 1) = nI nw
theorem Lay.sz {X : Nat → Int32} {f us n : Nat} (h : Lay X f us n) {k : Nat} (hk : k < n) : ∃ nf nw : Nat, nf ≤ 200 ∧ nw ≤ 200 ∧ X (ch X f k) = nI nf ∧ X (ch X f k + 1) = nI nw ∧ szX X (ch X f k) = 3 + nf + nw := by
  obtain ⟨nf, nw, h1, h2, h3, h4⟩ := h.2 k hk
  refine ⟨nf, nw, h1, h2, h3, h4, ?_⟩
  simp only [szX]
  rw [h3, h4, nI_clamp (by omega), nI_clamp (by omega)]
theorem Lay.few {X : Nat → Int32} {f us n : Nat} (h : Lay X f us n) : 3 * n ≤ us := by
  have := ch_ge X f n
  rw [h.1] at this
  omega
theorem Lay.in {X : Nat → Int32} {f us n : Nat} (h : Lay X f us n) {k : Nat} (hk : k < n) : f ≤ ch X f k ∧ ch X f k + szX X (ch X f k) ≤ f + us := by
  have h1 := ch_ge X f k
  have h2 := ch_le X f (k + 1) n (by omega)
  rw [h.1] at h2
  simp only [ch] at h2
  omega
/-- what holds of the class's cells between two calls: numbers p of its parts (first, cells, used, objects) -/
def nInv (σ : nSt) (p : Nat → Nat → Nat) : Prop :=
  (∀ i, i < 4 → ∀ j, j < 4 → σ.P i j = nI (p i j)) ∧ (∀ i, i < 4 → Lay σ.X (p i 0) (p i 2) (p i 3)) ∧
  (1 ≤ p 0 0 ∧ p 0 0 + p 0 2 ≤ p 1 0 ∧ p 1 0 + p 1 2 ≤ p 2 0 ∧ p 2 0 + p 2 2 ≤ p 3 0 ∧ p 3 0 + p 3 2 ≤ σ.N ∧ σ.N ≤ 10241)
/-- is x an object's address? -/
noncomputable def isOb (X : Nat → Int32) (p : Nat → Nat → Nat) (x : Int32) : Int32 := @ite Int32 (∃ i, i < 4 ∧ ∃ t, t < p i 3 ∧ x = nI (ch X (p i 0) t)) (Classical.propDecidable _) 1 0
theorem isOb_1 {X : Nat → Int32} {p : Nat → Nat → Nat} {x : Int32} (h : ∃ i, i < 4 ∧ ∃ t, t < p i 3 ∧ x = nI (ch X (p i 0) t)) : isOb X p x = 1 := if_pos h
theorem isOb_0 {X : Nat → Int32} {p : Nat → Nat → Nat} {x : Int32} (h : ¬ ∃ i, i < 4 ∧ ∃ t, t < p i 3 ∧ x = nI (ch X (p i 0) t)) : isOb X p x = 0 := if_neg h
theorem isOb_ne {X : Nat → Int32} {p : Nat → Nat → Nat} {x : Int32} (h : ¬ isOb X p x = 0) : ∃ i, i < 4 ∧ ∃ t, t < p i 3 ∧ x = nI (ch X (p i 0) t) := Classical.byContradiction fun q => h (isOb_0 q)
theorem nInv.ord {σ : nSt} {p : Nat → Nat → Nat} (h : nInv σ p) {i j : Nat} (hij : i < j) (hj : j < 4) : p i 0 + p i 2 ≤ p j 0 := by
  obtain ⟨-, -, h1, h2, h3, h4, h5, h6⟩ := h
  rcases (show (i = 0 ∧ j = 1) ∨ (i = 0 ∧ j = 2) ∨ (i = 0 ∧ j = 3) ∨ (i = 1 ∧ j = 2) ∨ (i = 1 ∧ j = 3) ∨ (i = 2 ∧ j = 3) by omega) with ⟨rfl, rfl⟩ | ⟨rfl, rfl⟩ | ⟨rfl, rfl⟩ | ⟨rfl, rfl⟩ | ⟨rfl, rfl⟩ | ⟨rfl, rfl⟩ <;> omega
theorem nInv.end {σ : nSt} {p : Nat → Nat → Nat} (h : nInv σ p) {i : Nat} (hi : i < 4) : 1 ≤ p i 0 ∧ p i 0 + p i 2 ≤ σ.N ∧ σ.N ≤ 10241 := by
  obtain ⟨-, -, h1, h2, h3, h4, h5, h6⟩ := h
  rcases (show i = 0 ∨ i = 1 ∨ i = 2 ∨ i = 3 by omega) with rfl | rfl | rfl | rfl <;> omega
/-- what 'covers' says, of small numbers -/
theorem ptCov_0 {f us : Nat} {x : Int32} (h : ptCov (nI f) (nI us) x = 0) (hb : f + us < 2 ^ 31) : ∀ k, f ≤ k → k < f + us → x ≠ nI k := by
  intro k h1 h2 e
  subst e
  simp only [ptCov, nI_add] at h
  rw [if_neg (nI_nlt h1 (by omega)), if_neg (nI_ge h2 hb)] at h
  exact absurd h (by decide)
theorem ptCov_1 {f us : Nat} {x : Int32} (h : ¬ ptCov (nI f) (nI us) x = 0) (hb : f + us < 2 ^ 31) : ∃ k, x = nI k ∧ f ≤ k ∧ k < f + us := by
  simp only [ptCov, nI_add] at h
  by_cases c1 : x < nI f
  · rw [if_pos c1] at h; exact absurd rfl h
  · rw [if_neg c1] at h
    by_cases c2 : nI (f + us) ≤ x
    · rw [if_pos c2] at h; exact absurd rfl h
    · have h0 : ¬ x < 0 := fun q => c1 (Int32.lt_of_lt_of_le q (nI_pos' (by omega)))
      obtain ⟨j, hj, rfl⟩ := nI_of h0
      refine ⟨j, rfl, ?_, ?_⟩
      · exact Nat.not_lt.mp fun q => c1 (nI_lt q (by omega))
      · exact Nat.not_le.mp fun q => c2 (nI_le q hj)
theorem pOf_spec {σ : nSt} {p : Nat → Nat → Nat} (h : nInv σ p) (x : Int32) : (∃ i k, i < 4 ∧ pOf σ x = nI i ∧ x = nI k ∧ p i 0 ≤ k ∧ k < p i 0 + p i 2) ∨ (pOf σ x = 4 ∧ ∀ i, i < 4 → ∀ k, p i 0 ≤ k → k < p i 0 + p i 2 → x ≠ nI k) := by
  have hp := h.1
  have e0 := h.end (i := 0) (by omega)
  have e1 := h.end (i := 1) (by omega)
  have e2 := h.end (i := 2) (by omega)
  have e3 := h.end (i := 3) (by omega)
  simp only [pOf]
  rw [hp 0 (by omega) 0 (by omega), hp 0 (by omega) 2 (by omega), hp 1 (by omega) 0 (by omega), hp 1 (by omega) 2 (by omega), hp 2 (by omega) 0 (by omega), hp 2 (by omega) 2 (by omega), hp 3 (by omega) 0 (by omega), hp 3 (by omega) 2 (by omega)]
  by_cases c0 : ptCov (nI (p 0 0)) (nI (p 0 2)) x = 0
  · by_cases c1 : ptCov (nI (p 1 0)) (nI (p 1 2)) x = 0
    · by_cases c2 : ptCov (nI (p 2 0)) (nI (p 2 2)) x = 0
      · by_cases c3 : ptCov (nI (p 3 0)) (nI (p 3 2)) x = 0
        · right
          refine ⟨by rw [if_pos c0, if_pos c1, if_pos c2, if_pos c3], fun i hi => ?_⟩
          rcases (show i = 0 ∨ i = 1 ∨ i = 2 ∨ i = 3 by omega) with rfl | rfl | rfl | rfl
          · exact ptCov_0 c0 (by omega)
          · exact ptCov_0 c1 (by omega)
          · exact ptCov_0 c2 (by omega)
          · exact ptCov_0 c3 (by omega)
        · left
          obtain ⟨k, a1, a2, a3⟩ := ptCov_1 c3 (by omega)
          exact ⟨3, k, by omega, by rw [if_pos c0, if_pos c1, if_pos c2, if_neg c3]; rfl, a1, a2, a3⟩
      · left
        obtain ⟨k, a1, a2, a3⟩ := ptCov_1 c2 (by omega)
        exact ⟨2, k, by omega, by rw [if_pos c0, if_pos c1, if_neg c2]; rfl, a1, a2, a3⟩
    · left
      obtain ⟨k, a1, a2, a3⟩ := ptCov_1 c1 (by omega)
      exact ⟨1, k, by omega, by rw [if_pos c0, if_neg c1]; rfl, a1, a2, a3⟩
  · left
    obtain ⟨k, a1, a2, a3⟩ := ptCov_1 c0 (by omega)
    exact ⟨0, k, by omega, by rw [if_neg c0]; rfl, a1, a2, a3⟩
/-- an object lies in just one part -/
theorem nInv.one {σ : nSt} {p : Nat → Nat → Nat} (h : nInv σ p) {i k : Nat} (hi : i < 4) (h1 : p i 0 ≤ k) (h2 : k < p i 0 + p i 2) {j t : Nat} (hj : j < 4) (ht : t < p j 3) (e : k = ch σ.X (p j 0) t) : j = i := by
  have hl := (h.2.1 j hj).in ht
  have hs : 3 ≤ szX σ.X (ch σ.X (p j 0) t) := by simp only [szX]; omega
  rcases Nat.lt_trichotomy j i with q | q | q
  · have := h.ord q hi; omega
  · exact q
  · have := h.ord q hj; omega
section ISOB
variable {σ : nSt} {pp : Nat → Nat → Nat} {x : Int32} {i k j : Nat}
theorem isob_s {e : Int32} {n m : Nat} (hn : n < 2 ^ 31) (hm : m < 2 ^ 31) (h1 : e = nI n) (h2 : e = nI m) : n = m := (nI_eq hn hm).mp (h1.symm.trans h2)
/-- the search has come to the j-th object of part i, all before lie ahead of k -/
theorem isob_n (h : nInv σ pp) (hi : i < 4) (hk1 : pp i 0 ≤ k) (hk2 : k < pp i 0 + pp i 2) (hxk : x = nI k) (hjk : ∀ t, t < j → ch σ.X (pp i 0) t < k) (hj : pp i 3 ≤ j ∨ k < ch σ.X (pp i 0) j) : isOb σ.X pp x = 0 := by
  refine isOb_0 fun ⟨i2, hi2, t, ht, e⟩ => ?_
  have hl := (h.2.1 i2 hi2).in ht
  have he2 := h.end hi2
  have he := h.end hi
  have hs : 3 ≤ szX σ.X (ch σ.X (pp i2 0) t) := by simp only [szX]; omega
  have e2 : k = ch σ.X (pp i2 0) t := isob_s (by omega) (by omega) hxk e
  have := h.one hi hk1 hk2 hi2 ht e2
  subst this
  rcases hj with hj | hj
  · have := hjk t (by omega); omega
  · rcases Nat.lt_trichotomy t j with q | q | q
    · have := hjk t q; omega
    · subst q; omega
    · have := ch_lt σ.X (pp i2 0) q; omega
theorem isob_y (hi : i < 4) (hj : j < pp i 3) (hx : nI (ch σ.X (pp i 0) j) = x) : isOb σ.X pp x = 1 := isOb_1 ⟨i, hi, j, hj, hx.symm⟩
end ISOB
end
section
/-! THE CLASS, what it asks of its cells -/
set_option maxHeartbeats 4000000 in
set_option maxRecDepth 100000 in
/-- the first object from part i on -/
theorem qNr_firstFrom (l : Launch) (D : va_G) (cI cP : ClassId) (a : Nat → Nat) (σ : nSt) (i : Nat) (hi : i ≤ 4) : gx_Mp l yNr_firstFrom (Cond.code yNr_firstFrom cNr_firstFrom 3 (some .int) :: gW) (gR 0) D gC (nrT cI cP) (nrW cI cP a σ) [.ref (a 0), .int (nI i)] (fF σ i) := by
  refine gx_Mp.of (cc := cNr_firstFrom) (maxL := 3) (ret := (some .int)) (by decide) rfl (Nat.le_of_ble_eq_true rfl) ?_
  intro p e s m args below meth c ls E hK hP hD hl
  obtain ⟨hx, hb, hr, hml, hts, hown, hlocks, hnm⟩ := id E
  have hg : ∀ w ∈ gW, w.before args s = true := fun w h => hts w (List.mem_cons_of_mem _ h)
  have hown : s.vm.findClass "NurseryRow" = some m.cls := hown
  have hl : lv_has ls 3 [(0, .ref (a 0)), (1, .int (nI i))] := hl
  rcases (show i = 0 ∨ i = 1 ∨ i = 2 ∨ i = 3 ∨ i = 4 by omega) with rfl | rfl | rfl | rfl | rfl
  · have hl : lv_has ls 3 [(0, .ref (a 0)), (1, .int 0)] := hl
    refine lv_iload_n hx hb dNr_firstFrom_0 rfl (lv_at hl 1 rfl) ?_
    refine lv_istore_n (lv' := [(2, .int 0), (0, .ref (a 0)), (1, .int 0)]) hx hb dNr_firstFrom_1 rfl hl (by decide) rfl (fun ls hl => ?_)
    refine lv_iload_n hx hb dNr_firstFrom_2 rfl (lv_at hl 0 rfl) ?_
    refine lv_iconst (v := 4) hx hb dNr_firstFrom_3 (by decide) ?_
    refine lv_icmp_ge (tgt := 35) hx hb dNr_firstFrom_4 (by decide) (fun c_4 => ?_) (fun c_4 => ?_)
    · exact absurd c_4 (by decide)
    · refine lv_aload_n hx hb dNr_firstFrom_7 rfl (lv_at hl 1 rfl) ?_
      refine va_get (C := RNr) (T := TNr) (N := 10) (ci := 1) (v := .ref (a 1)) hx hb hg inNr hown hK hP 0 rfl rfl 0 (by decide) (hg _ f_Nr_11) (fun _ h9 => h9) rfl dNr_firstFrom_8 ?_
      refine lv_iload_n hx hb dNr_firstFrom_11 rfl (lv_at hl 0 rfl) ?_
      refine va_aldq hx hb hK hP 1 1 rfl rfl (by unfold vp_in; decide) dNr_firstFrom_12 ?_
      refine gx_stk (st' := [.ref (a (2 + 0))]) rfl ?_
      refine va_get (C := RPt) (T := TPt) (N := 4) (ci := 0) (v := .int (σ.P 0 3)) hx hb hg inPt hown hK hP 2 rfl rfl 3 (by decide) (hg _ f_Nr_120) (fun _ h9 => h9) rfl dNr_firstFrom_13 ?_
      refine lv_if_le (tgt := 29) hx hb dNr_firstFrom_16 (by decide) (fun c_16 => ?_) (fun c_16 => ?_)
      · refine lv_iinc (v := 1) (lv' := [(2, .int 1), (0, .ref (a 0)), (1, .int 0)]) hx hb dNr_firstFrom_29 hl (k := 0) rfl (by decide) (by decide) rfl (fun ls hl => ?_)
        refine lv_goto (tgt := 2) hx hb dNr_firstFrom_32 (by decide) ?_
        refine lv_iload_n hx hb dNr_firstFrom_2 rfl (lv_at hl 0 rfl) ?_
        refine lv_iconst (v := 4) hx hb dNr_firstFrom_3 (by decide) ?_
        refine lv_icmp_ge (tgt := 35) hx hb dNr_firstFrom_4 (by decide) (fun c_4' => ?_) (fun c_4' => ?_)
        · exact absurd c_4' (by decide)
        · refine lv_aload_n hx hb dNr_firstFrom_7 rfl (lv_at hl 1 rfl) ?_
          refine va_get (C := RNr) (T := TNr) (N := 10) (ci := 1) (v := .ref (a 1)) hx hb hg inNr hown hK hP 0 rfl rfl 0 (by decide) (hg _ f_Nr_11) (fun _ h9 => h9) rfl dNr_firstFrom_8 ?_
          refine lv_iload_n hx hb dNr_firstFrom_11 rfl (lv_at hl 0 rfl) ?_
          refine va_aldq hx hb hK hP 1 1 rfl rfl (by unfold vp_in; decide) dNr_firstFrom_12 ?_
          refine gx_stk (st' := [.ref (a (2 + 1))]) rfl ?_
          refine va_get (C := RPt) (T := TPt) (N := 4) (ci := 0) (v := .int (σ.P 1 3)) hx hb hg inPt hown hK hP 3 rfl rfl 3 (by decide) (hg _ f_Nr_120) (fun _ h9 => h9) rfl dNr_firstFrom_13 ?_
          refine lv_if_le (tgt := 29) hx hb dNr_firstFrom_16 (by decide) (fun c_16' => ?_) (fun c_16' => ?_)
          · refine lv_iinc (v := 2) (lv' := [(2, .int 2), (0, .ref (a 0)), (1, .int 0)]) hx hb dNr_firstFrom_29 hl (k := 0) rfl (by decide) (by decide) rfl (fun ls hl => ?_)
            refine lv_goto (tgt := 2) hx hb dNr_firstFrom_32 (by decide) ?_
            refine lv_iload_n hx hb dNr_firstFrom_2 rfl (lv_at hl 0 rfl) ?_
            refine lv_iconst (v := 4) hx hb dNr_firstFrom_3 (by decide) ?_
            refine lv_icmp_ge (tgt := 35) hx hb dNr_firstFrom_4 (by decide) (fun c_4'' => ?_) (fun c_4'' => ?_)
            · exact absurd c_4'' (by decide)
            · refine lv_aload_n hx hb dNr_firstFrom_7 rfl (lv_at hl 1 rfl) ?_
              refine va_get (C := RNr) (T := TNr) (N := 10) (ci := 1) (v := .ref (a 1)) hx hb hg inNr hown hK hP 0 rfl rfl 0 (by decide) (hg _ f_Nr_11) (fun _ h9 => h9) rfl dNr_firstFrom_8 ?_
              refine lv_iload_n hx hb dNr_firstFrom_11 rfl (lv_at hl 0 rfl) ?_
              refine va_aldq hx hb hK hP 1 1 rfl rfl (by unfold vp_in; decide) dNr_firstFrom_12 ?_
              refine gx_stk (st' := [.ref (a (2 + 2))]) rfl ?_
              refine va_get (C := RPt) (T := TPt) (N := 4) (ci := 0) (v := .int (σ.P 2 3)) hx hb hg inPt hown hK hP 4 rfl rfl 3 (by decide) (hg _ f_Nr_120) (fun _ h9 => h9) rfl dNr_firstFrom_13 ?_
              refine lv_if_le (tgt := 29) hx hb dNr_firstFrom_16 (by decide) (fun c_16'' => ?_) (fun c_16'' => ?_)
              · refine lv_iinc (v := 3) (lv' := [(2, .int 3), (0, .ref (a 0)), (1, .int 0)]) hx hb dNr_firstFrom_29 hl (k := 0) rfl (by decide) (by decide) rfl (fun ls hl => ?_)
                refine lv_goto (tgt := 2) hx hb dNr_firstFrom_32 (by decide) ?_
                refine lv_iload_n hx hb dNr_firstFrom_2 rfl (lv_at hl 0 rfl) ?_
                refine lv_iconst (v := 4) hx hb dNr_firstFrom_3 (by decide) ?_
                refine lv_icmp_ge (tgt := 35) hx hb dNr_firstFrom_4 (by decide) (fun c_4''' => ?_) (fun c_4''' => ?_)
                · exact absurd c_4''' (by decide)
                · refine lv_aload_n hx hb dNr_firstFrom_7 rfl (lv_at hl 1 rfl) ?_
                  refine va_get (C := RNr) (T := TNr) (N := 10) (ci := 1) (v := .ref (a 1)) hx hb hg inNr hown hK hP 0 rfl rfl 0 (by decide) (hg _ f_Nr_11) (fun _ h9 => h9) rfl dNr_firstFrom_8 ?_
                  refine lv_iload_n hx hb dNr_firstFrom_11 rfl (lv_at hl 0 rfl) ?_
                  refine va_aldq hx hb hK hP 1 1 rfl rfl (by unfold vp_in; decide) dNr_firstFrom_12 ?_
                  refine gx_stk (st' := [.ref (a (2 + 3))]) rfl ?_
                  refine va_get (C := RPt) (T := TPt) (N := 4) (ci := 0) (v := .int (σ.P 3 3)) hx hb hg inPt hown hK hP 5 rfl rfl 3 (by decide) (hg _ f_Nr_120) (fun _ h9 => h9) rfl dNr_firstFrom_13 ?_
                  refine lv_if_le (tgt := 29) hx hb dNr_firstFrom_16 (by decide) (fun c_16''' => ?_) (fun c_16''' => ?_)
                  · refine lv_iinc (v := 4) (lv' := [(2, .int 4), (0, .ref (a 0)), (1, .int 0)]) hx hb dNr_firstFrom_29 hl (k := 0) rfl (by decide) (by decide) rfl (fun ls hl => ?_)
                    refine lv_goto (tgt := 2) hx hb dNr_firstFrom_32 (by decide) ?_
                    refine lv_iload_n hx hb dNr_firstFrom_2 rfl (lv_at hl 0 rfl) ?_
                    refine lv_iconst (v := 4) hx hb dNr_firstFrom_3 (by decide) ?_
                    refine lv_icmp_ge (tgt := 35) hx hb dNr_firstFrom_4 (by decide) (fun c_4'''' => ?_) (fun c_4'''' => ?_)
                    · refine lv_iconst (v := 0) hx hb dNr_firstFrom_35 (by decide) ?_
                      exact gx_pret E (by simp [fF, c_4, c_16, c_4', c_16', c_4'', c_16'', c_4''', c_16''', c_4'''']) dNr_firstFrom_36
                    · exact absurd c_4'''' (by decide)
                  · refine lv_aload_n hx hb dNr_firstFrom_19 rfl (lv_at hl 1 rfl) ?_
                    refine va_get (C := RNr) (T := TNr) (N := 10) (ci := 1) (v := .ref (a 1)) hx hb hg inNr hown hK hP 0 rfl rfl 0 (by decide) (hg _ f_Nr_11) (fun _ h9 => h9) rfl dNr_firstFrom_20 ?_
                    refine lv_iload_n hx hb dNr_firstFrom_23 rfl (lv_at hl 0 rfl) ?_
                    refine va_aldq hx hb hK hP 1 1 rfl rfl (by unfold vp_in; decide) dNr_firstFrom_24 ?_
                    refine gx_stk (st' := [.ref (a (2 + 3))]) rfl ?_
                    refine va_get (C := RPt) (T := TPt) (N := 4) (ci := 0) (v := .int (σ.P 3 0)) hx hb hg inPt hown hK hP 5 rfl rfl 0 (by decide) (hg _ f_Nr_164) (fun _ h9 => h9) rfl dNr_firstFrom_25 ?_
                    exact gx_pret E (by simp [fF, c_4, c_16, c_4', c_16', c_4'', c_16'', c_4''', c_16''']) dNr_firstFrom_28
              · refine lv_aload_n hx hb dNr_firstFrom_19 rfl (lv_at hl 1 rfl) ?_
                refine va_get (C := RNr) (T := TNr) (N := 10) (ci := 1) (v := .ref (a 1)) hx hb hg inNr hown hK hP 0 rfl rfl 0 (by decide) (hg _ f_Nr_11) (fun _ h9 => h9) rfl dNr_firstFrom_20 ?_
                refine lv_iload_n hx hb dNr_firstFrom_23 rfl (lv_at hl 0 rfl) ?_
                refine va_aldq hx hb hK hP 1 1 rfl rfl (by unfold vp_in; decide) dNr_firstFrom_24 ?_
                refine gx_stk (st' := [.ref (a (2 + 2))]) rfl ?_
                refine va_get (C := RPt) (T := TPt) (N := 4) (ci := 0) (v := .int (σ.P 2 0)) hx hb hg inPt hown hK hP 4 rfl rfl 0 (by decide) (hg _ f_Nr_164) (fun _ h9 => h9) rfl dNr_firstFrom_25 ?_
                exact gx_pret E (by simp [fF, c_4, c_16, c_4', c_16', c_4'', c_16'']) dNr_firstFrom_28
          · refine lv_aload_n hx hb dNr_firstFrom_19 rfl (lv_at hl 1 rfl) ?_
            refine va_get (C := RNr) (T := TNr) (N := 10) (ci := 1) (v := .ref (a 1)) hx hb hg inNr hown hK hP 0 rfl rfl 0 (by decide) (hg _ f_Nr_11) (fun _ h9 => h9) rfl dNr_firstFrom_20 ?_
            refine lv_iload_n hx hb dNr_firstFrom_23 rfl (lv_at hl 0 rfl) ?_
            refine va_aldq hx hb hK hP 1 1 rfl rfl (by unfold vp_in; decide) dNr_firstFrom_24 ?_
            refine gx_stk (st' := [.ref (a (2 + 1))]) rfl ?_
            refine va_get (C := RPt) (T := TPt) (N := 4) (ci := 0) (v := .int (σ.P 1 0)) hx hb hg inPt hown hK hP 3 rfl rfl 0 (by decide) (hg _ f_Nr_164) (fun _ h9 => h9) rfl dNr_firstFrom_25 ?_
            exact gx_pret E (by simp [fF, c_4, c_16, c_4', c_16']) dNr_firstFrom_28
      · refine lv_aload_n hx hb dNr_firstFrom_19 rfl (lv_at hl 1 rfl) ?_
        refine va_get (C := RNr) (T := TNr) (N := 10) (ci := 1) (v := .ref (a 1)) hx hb hg inNr hown hK hP 0 rfl rfl 0 (by decide) (hg _ f_Nr_11) (fun _ h9 => h9) rfl dNr_firstFrom_20 ?_
        refine lv_iload_n hx hb dNr_firstFrom_23 rfl (lv_at hl 0 rfl) ?_
        refine va_aldq hx hb hK hP 1 1 rfl rfl (by unfold vp_in; decide) dNr_firstFrom_24 ?_
        refine gx_stk (st' := [.ref (a (2 + 0))]) rfl ?_
        refine va_get (C := RPt) (T := TPt) (N := 4) (ci := 0) (v := .int (σ.P 0 0)) hx hb hg inPt hown hK hP 2 rfl rfl 0 (by decide) (hg _ f_Nr_164) (fun _ h9 => h9) rfl dNr_firstFrom_25 ?_
        exact gx_pret E (by simp [fF, c_4, c_16]) dNr_firstFrom_28
  · have hl : lv_has ls 3 [(0, .ref (a 0)), (1, .int 1)] := hl
    refine lv_iload_n hx hb dNr_firstFrom_0 rfl (lv_at hl 1 rfl) ?_
    refine lv_istore_n (lv' := [(2, .int 1), (0, .ref (a 0)), (1, .int 1)]) hx hb dNr_firstFrom_1 rfl hl (by decide) rfl (fun ls hl => ?_)
    refine lv_iload_n hx hb dNr_firstFrom_2 rfl (lv_at hl 0 rfl) ?_
    refine lv_iconst (v := 4) hx hb dNr_firstFrom_3 (by decide) ?_
    refine lv_icmp_ge (tgt := 35) hx hb dNr_firstFrom_4 (by decide) (fun c_4 => ?_) (fun c_4 => ?_)
    · exact absurd c_4 (by decide)
    · refine lv_aload_n hx hb dNr_firstFrom_7 rfl (lv_at hl 1 rfl) ?_
      refine va_get (C := RNr) (T := TNr) (N := 10) (ci := 1) (v := .ref (a 1)) hx hb hg inNr hown hK hP 0 rfl rfl 0 (by decide) (hg _ f_Nr_11) (fun _ h9 => h9) rfl dNr_firstFrom_8 ?_
      refine lv_iload_n hx hb dNr_firstFrom_11 rfl (lv_at hl 0 rfl) ?_
      refine va_aldq hx hb hK hP 1 1 rfl rfl (by unfold vp_in; decide) dNr_firstFrom_12 ?_
      refine gx_stk (st' := [.ref (a (2 + 1))]) rfl ?_
      refine va_get (C := RPt) (T := TPt) (N := 4) (ci := 0) (v := .int (σ.P 1 3)) hx hb hg inPt hown hK hP 3 rfl rfl 3 (by decide) (hg _ f_Nr_120) (fun _ h9 => h9) rfl dNr_firstFrom_13 ?_
      refine lv_if_le (tgt := 29) hx hb dNr_firstFrom_16 (by decide) (fun c_16 => ?_) (fun c_16 => ?_)
      · refine lv_iinc (v := 2) (lv' := [(2, .int 2), (0, .ref (a 0)), (1, .int 1)]) hx hb dNr_firstFrom_29 hl (k := 0) rfl (by decide) (by decide) rfl (fun ls hl => ?_)
        refine lv_goto (tgt := 2) hx hb dNr_firstFrom_32 (by decide) ?_
        refine lv_iload_n hx hb dNr_firstFrom_2 rfl (lv_at hl 0 rfl) ?_
        refine lv_iconst (v := 4) hx hb dNr_firstFrom_3 (by decide) ?_
        refine lv_icmp_ge (tgt := 35) hx hb dNr_firstFrom_4 (by decide) (fun c_4' => ?_) (fun c_4' => ?_)
        · exact absurd c_4' (by decide)
        · refine lv_aload_n hx hb dNr_firstFrom_7 rfl (lv_at hl 1 rfl) ?_
          refine va_get (C := RNr) (T := TNr) (N := 10) (ci := 1) (v := .ref (a 1)) hx hb hg inNr hown hK hP 0 rfl rfl 0 (by decide) (hg _ f_Nr_11) (fun _ h9 => h9) rfl dNr_firstFrom_8 ?_
          refine lv_iload_n hx hb dNr_firstFrom_11 rfl (lv_at hl 0 rfl) ?_
          refine va_aldq hx hb hK hP 1 1 rfl rfl (by unfold vp_in; decide) dNr_firstFrom_12 ?_
          refine gx_stk (st' := [.ref (a (2 + 2))]) rfl ?_
          refine va_get (C := RPt) (T := TPt) (N := 4) (ci := 0) (v := .int (σ.P 2 3)) hx hb hg inPt hown hK hP 4 rfl rfl 3 (by decide) (hg _ f_Nr_120) (fun _ h9 => h9) rfl dNr_firstFrom_13 ?_
          refine lv_if_le (tgt := 29) hx hb dNr_firstFrom_16 (by decide) (fun c_16' => ?_) (fun c_16' => ?_)
          · refine lv_iinc (v := 3) (lv' := [(2, .int 3), (0, .ref (a 0)), (1, .int 1)]) hx hb dNr_firstFrom_29 hl (k := 0) rfl (by decide) (by decide) rfl (fun ls hl => ?_)
            refine lv_goto (tgt := 2) hx hb dNr_firstFrom_32 (by decide) ?_
            refine lv_iload_n hx hb dNr_firstFrom_2 rfl (lv_at hl 0 rfl) ?_
            refine lv_iconst (v := 4) hx hb dNr_firstFrom_3 (by decide) ?_
            refine lv_icmp_ge (tgt := 35) hx hb dNr_firstFrom_4 (by decide) (fun c_4'' => ?_) (fun c_4'' => ?_)
            · exact absurd c_4'' (by decide)
            · refine lv_aload_n hx hb dNr_firstFrom_7 rfl (lv_at hl 1 rfl) ?_
              refine va_get (C := RNr) (T := TNr) (N := 10) (ci := 1) (v := .ref (a 1)) hx hb hg inNr hown hK hP 0 rfl rfl 0 (by decide) (hg _ f_Nr_11) (fun _ h9 => h9) rfl dNr_firstFrom_8 ?_
              refine lv_iload_n hx hb dNr_firstFrom_11 rfl (lv_at hl 0 rfl) ?_
              refine va_aldq hx hb hK hP 1 1 rfl rfl (by unfold vp_in; decide) dNr_firstFrom_12 ?_
              refine gx_stk (st' := [.ref (a (2 + 3))]) rfl ?_
              refine va_get (C := RPt) (T := TPt) (N := 4) (ci := 0) (v := .int (σ.P 3 3)) hx hb hg inPt hown hK hP 5 rfl rfl 3 (by decide) (hg _ f_Nr_120) (fun _ h9 => h9) rfl dNr_firstFrom_13 ?_
              refine lv_if_le (tgt := 29) hx hb dNr_firstFrom_16 (by decide) (fun c_16'' => ?_) (fun c_16'' => ?_)
              · refine lv_iinc (v := 4) (lv' := [(2, .int 4), (0, .ref (a 0)), (1, .int 1)]) hx hb dNr_firstFrom_29 hl (k := 0) rfl (by decide) (by decide) rfl (fun ls hl => ?_)
                refine lv_goto (tgt := 2) hx hb dNr_firstFrom_32 (by decide) ?_
                refine lv_iload_n hx hb dNr_firstFrom_2 rfl (lv_at hl 0 rfl) ?_
                refine lv_iconst (v := 4) hx hb dNr_firstFrom_3 (by decide) ?_
                refine lv_icmp_ge (tgt := 35) hx hb dNr_firstFrom_4 (by decide) (fun c_4''' => ?_) (fun c_4''' => ?_)
                · refine lv_iconst (v := 0) hx hb dNr_firstFrom_35 (by decide) ?_
                  exact gx_pret E (by simp [fF, c_4, c_16, c_4', c_16', c_4'', c_16'', c_4''']) dNr_firstFrom_36
                · exact absurd c_4''' (by decide)
              · refine lv_aload_n hx hb dNr_firstFrom_19 rfl (lv_at hl 1 rfl) ?_
                refine va_get (C := RNr) (T := TNr) (N := 10) (ci := 1) (v := .ref (a 1)) hx hb hg inNr hown hK hP 0 rfl rfl 0 (by decide) (hg _ f_Nr_11) (fun _ h9 => h9) rfl dNr_firstFrom_20 ?_
                refine lv_iload_n hx hb dNr_firstFrom_23 rfl (lv_at hl 0 rfl) ?_
                refine va_aldq hx hb hK hP 1 1 rfl rfl (by unfold vp_in; decide) dNr_firstFrom_24 ?_
                refine gx_stk (st' := [.ref (a (2 + 3))]) rfl ?_
                refine va_get (C := RPt) (T := TPt) (N := 4) (ci := 0) (v := .int (σ.P 3 0)) hx hb hg inPt hown hK hP 5 rfl rfl 0 (by decide) (hg _ f_Nr_164) (fun _ h9 => h9) rfl dNr_firstFrom_25 ?_
                exact gx_pret E (by simp [fF, c_4, c_16, c_4', c_16', c_4'', c_16'']) dNr_firstFrom_28
          · refine lv_aload_n hx hb dNr_firstFrom_19 rfl (lv_at hl 1 rfl) ?_
            refine va_get (C := RNr) (T := TNr) (N := 10) (ci := 1) (v := .ref (a 1)) hx hb hg inNr hown hK hP 0 rfl rfl 0 (by decide) (hg _ f_Nr_11) (fun _ h9 => h9) rfl dNr_firstFrom_20 ?_
            refine lv_iload_n hx hb dNr_firstFrom_23 rfl (lv_at hl 0 rfl) ?_
            refine va_aldq hx hb hK hP 1 1 rfl rfl (by unfold vp_in; decide) dNr_firstFrom_24 ?_
            refine gx_stk (st' := [.ref (a (2 + 2))]) rfl ?_
            refine va_get (C := RPt) (T := TPt) (N := 4) (ci := 0) (v := .int (σ.P 2 0)) hx hb hg inPt hown hK hP 4 rfl rfl 0 (by decide) (hg _ f_Nr_164) (fun _ h9 => h9) rfl dNr_firstFrom_25 ?_
            exact gx_pret E (by simp [fF, c_4, c_16, c_4', c_16']) dNr_firstFrom_28
      · refine lv_aload_n hx hb dNr_firstFrom_19 rfl (lv_at hl 1 rfl) ?_
        refine va_get (C := RNr) (T := TNr) (N := 10) (ci := 1) (v := .ref (a 1)) hx hb hg inNr hown hK hP 0 rfl rfl 0 (by decide) (hg _ f_Nr_11) (fun _ h9 => h9) rfl dNr_firstFrom_20 ?_
        refine lv_iload_n hx hb dNr_firstFrom_23 rfl (lv_at hl 0 rfl) ?_
        refine va_aldq hx hb hK hP 1 1 rfl rfl (by unfold vp_in; decide) dNr_firstFrom_24 ?_
        refine gx_stk (st' := [.ref (a (2 + 1))]) rfl ?_
        refine va_get (C := RPt) (T := TPt) (N := 4) (ci := 0) (v := .int (σ.P 1 0)) hx hb hg inPt hown hK hP 3 rfl rfl 0 (by decide) (hg _ f_Nr_164) (fun _ h9 => h9) rfl dNr_firstFrom_25 ?_
        exact gx_pret E (by simp [fF, c_4, c_16]) dNr_firstFrom_28
  · have hl : lv_has ls 3 [(0, .ref (a 0)), (1, .int 2)] := hl
    refine lv_iload_n hx hb dNr_firstFrom_0 rfl (lv_at hl 1 rfl) ?_
    refine lv_istore_n (lv' := [(2, .int 2), (0, .ref (a 0)), (1, .int 2)]) hx hb dNr_firstFrom_1 rfl hl (by decide) rfl (fun ls hl => ?_)
    refine lv_iload_n hx hb dNr_firstFrom_2 rfl (lv_at hl 0 rfl) ?_
    refine lv_iconst (v := 4) hx hb dNr_firstFrom_3 (by decide) ?_
    refine lv_icmp_ge (tgt := 35) hx hb dNr_firstFrom_4 (by decide) (fun c_4 => ?_) (fun c_4 => ?_)
    · exact absurd c_4 (by decide)
    · refine lv_aload_n hx hb dNr_firstFrom_7 rfl (lv_at hl 1 rfl) ?_
      refine va_get (C := RNr) (T := TNr) (N := 10) (ci := 1) (v := .ref (a 1)) hx hb hg inNr hown hK hP 0 rfl rfl 0 (by decide) (hg _ f_Nr_11) (fun _ h9 => h9) rfl dNr_firstFrom_8 ?_
      refine lv_iload_n hx hb dNr_firstFrom_11 rfl (lv_at hl 0 rfl) ?_
      refine va_aldq hx hb hK hP 1 1 rfl rfl (by unfold vp_in; decide) dNr_firstFrom_12 ?_
      refine gx_stk (st' := [.ref (a (2 + 2))]) rfl ?_
      refine va_get (C := RPt) (T := TPt) (N := 4) (ci := 0) (v := .int (σ.P 2 3)) hx hb hg inPt hown hK hP 4 rfl rfl 3 (by decide) (hg _ f_Nr_120) (fun _ h9 => h9) rfl dNr_firstFrom_13 ?_
      refine lv_if_le (tgt := 29) hx hb dNr_firstFrom_16 (by decide) (fun c_16 => ?_) (fun c_16 => ?_)
      · refine lv_iinc (v := 3) (lv' := [(2, .int 3), (0, .ref (a 0)), (1, .int 2)]) hx hb dNr_firstFrom_29 hl (k := 0) rfl (by decide) (by decide) rfl (fun ls hl => ?_)
        refine lv_goto (tgt := 2) hx hb dNr_firstFrom_32 (by decide) ?_
        refine lv_iload_n hx hb dNr_firstFrom_2 rfl (lv_at hl 0 rfl) ?_
        refine lv_iconst (v := 4) hx hb dNr_firstFrom_3 (by decide) ?_
        refine lv_icmp_ge (tgt := 35) hx hb dNr_firstFrom_4 (by decide) (fun c_4' => ?_) (fun c_4' => ?_)
        · exact absurd c_4' (by decide)
        · refine lv_aload_n hx hb dNr_firstFrom_7 rfl (lv_at hl 1 rfl) ?_
          refine va_get (C := RNr) (T := TNr) (N := 10) (ci := 1) (v := .ref (a 1)) hx hb hg inNr hown hK hP 0 rfl rfl 0 (by decide) (hg _ f_Nr_11) (fun _ h9 => h9) rfl dNr_firstFrom_8 ?_
          refine lv_iload_n hx hb dNr_firstFrom_11 rfl (lv_at hl 0 rfl) ?_
          refine va_aldq hx hb hK hP 1 1 rfl rfl (by unfold vp_in; decide) dNr_firstFrom_12 ?_
          refine gx_stk (st' := [.ref (a (2 + 3))]) rfl ?_
          refine va_get (C := RPt) (T := TPt) (N := 4) (ci := 0) (v := .int (σ.P 3 3)) hx hb hg inPt hown hK hP 5 rfl rfl 3 (by decide) (hg _ f_Nr_120) (fun _ h9 => h9) rfl dNr_firstFrom_13 ?_
          refine lv_if_le (tgt := 29) hx hb dNr_firstFrom_16 (by decide) (fun c_16' => ?_) (fun c_16' => ?_)
          · refine lv_iinc (v := 4) (lv' := [(2, .int 4), (0, .ref (a 0)), (1, .int 2)]) hx hb dNr_firstFrom_29 hl (k := 0) rfl (by decide) (by decide) rfl (fun ls hl => ?_)
            refine lv_goto (tgt := 2) hx hb dNr_firstFrom_32 (by decide) ?_
            refine lv_iload_n hx hb dNr_firstFrom_2 rfl (lv_at hl 0 rfl) ?_
            refine lv_iconst (v := 4) hx hb dNr_firstFrom_3 (by decide) ?_
            refine lv_icmp_ge (tgt := 35) hx hb dNr_firstFrom_4 (by decide) (fun c_4'' => ?_) (fun c_4'' => ?_)
            · refine lv_iconst (v := 0) hx hb dNr_firstFrom_35 (by decide) ?_
              exact gx_pret E (by simp [fF, c_4, c_16, c_4', c_16', c_4'']) dNr_firstFrom_36
            · exact absurd c_4'' (by decide)
          · refine lv_aload_n hx hb dNr_firstFrom_19 rfl (lv_at hl 1 rfl) ?_
            refine va_get (C := RNr) (T := TNr) (N := 10) (ci := 1) (v := .ref (a 1)) hx hb hg inNr hown hK hP 0 rfl rfl 0 (by decide) (hg _ f_Nr_11) (fun _ h9 => h9) rfl dNr_firstFrom_20 ?_
            refine lv_iload_n hx hb dNr_firstFrom_23 rfl (lv_at hl 0 rfl) ?_
            refine va_aldq hx hb hK hP 1 1 rfl rfl (by unfold vp_in; decide) dNr_firstFrom_24 ?_
            refine gx_stk (st' := [.ref (a (2 + 3))]) rfl ?_
            refine va_get (C := RPt) (T := TPt) (N := 4) (ci := 0) (v := .int (σ.P 3 0)) hx hb hg inPt hown hK hP 5 rfl rfl 0 (by decide) (hg _ f_Nr_164) (fun _ h9 => h9) rfl dNr_firstFrom_25 ?_
            exact gx_pret E (by simp [fF, c_4, c_16, c_4', c_16']) dNr_firstFrom_28
      · refine lv_aload_n hx hb dNr_firstFrom_19 rfl (lv_at hl 1 rfl) ?_
        refine va_get (C := RNr) (T := TNr) (N := 10) (ci := 1) (v := .ref (a 1)) hx hb hg inNr hown hK hP 0 rfl rfl 0 (by decide) (hg _ f_Nr_11) (fun _ h9 => h9) rfl dNr_firstFrom_20 ?_
        refine lv_iload_n hx hb dNr_firstFrom_23 rfl (lv_at hl 0 rfl) ?_
        refine va_aldq hx hb hK hP 1 1 rfl rfl (by unfold vp_in; decide) dNr_firstFrom_24 ?_
        refine gx_stk (st' := [.ref (a (2 + 2))]) rfl ?_
        refine va_get (C := RPt) (T := TPt) (N := 4) (ci := 0) (v := .int (σ.P 2 0)) hx hb hg inPt hown hK hP 4 rfl rfl 0 (by decide) (hg _ f_Nr_164) (fun _ h9 => h9) rfl dNr_firstFrom_25 ?_
        exact gx_pret E (by simp [fF, c_4, c_16]) dNr_firstFrom_28
  · have hl : lv_has ls 3 [(0, .ref (a 0)), (1, .int 3)] := hl
    refine lv_iload_n hx hb dNr_firstFrom_0 rfl (lv_at hl 1 rfl) ?_
    refine lv_istore_n (lv' := [(2, .int 3), (0, .ref (a 0)), (1, .int 3)]) hx hb dNr_firstFrom_1 rfl hl (by decide) rfl (fun ls hl => ?_)
    refine lv_iload_n hx hb dNr_firstFrom_2 rfl (lv_at hl 0 rfl) ?_
    refine lv_iconst (v := 4) hx hb dNr_firstFrom_3 (by decide) ?_
    refine lv_icmp_ge (tgt := 35) hx hb dNr_firstFrom_4 (by decide) (fun c_4 => ?_) (fun c_4 => ?_)
    · exact absurd c_4 (by decide)
    · refine lv_aload_n hx hb dNr_firstFrom_7 rfl (lv_at hl 1 rfl) ?_
      refine va_get (C := RNr) (T := TNr) (N := 10) (ci := 1) (v := .ref (a 1)) hx hb hg inNr hown hK hP 0 rfl rfl 0 (by decide) (hg _ f_Nr_11) (fun _ h9 => h9) rfl dNr_firstFrom_8 ?_
      refine lv_iload_n hx hb dNr_firstFrom_11 rfl (lv_at hl 0 rfl) ?_
      refine va_aldq hx hb hK hP 1 1 rfl rfl (by unfold vp_in; decide) dNr_firstFrom_12 ?_
      refine gx_stk (st' := [.ref (a (2 + 3))]) rfl ?_
      refine va_get (C := RPt) (T := TPt) (N := 4) (ci := 0) (v := .int (σ.P 3 3)) hx hb hg inPt hown hK hP 5 rfl rfl 3 (by decide) (hg _ f_Nr_120) (fun _ h9 => h9) rfl dNr_firstFrom_13 ?_
      refine lv_if_le (tgt := 29) hx hb dNr_firstFrom_16 (by decide) (fun c_16 => ?_) (fun c_16 => ?_)
      · refine lv_iinc (v := 4) (lv' := [(2, .int 4), (0, .ref (a 0)), (1, .int 3)]) hx hb dNr_firstFrom_29 hl (k := 0) rfl (by decide) (by decide) rfl (fun ls hl => ?_)
        refine lv_goto (tgt := 2) hx hb dNr_firstFrom_32 (by decide) ?_
        refine lv_iload_n hx hb dNr_firstFrom_2 rfl (lv_at hl 0 rfl) ?_
        refine lv_iconst (v := 4) hx hb dNr_firstFrom_3 (by decide) ?_
        refine lv_icmp_ge (tgt := 35) hx hb dNr_firstFrom_4 (by decide) (fun c_4' => ?_) (fun c_4' => ?_)
        · refine lv_iconst (v := 0) hx hb dNr_firstFrom_35 (by decide) ?_
          exact gx_pret E (by simp [fF, c_4, c_16, c_4']) dNr_firstFrom_36
        · exact absurd c_4' (by decide)
      · refine lv_aload_n hx hb dNr_firstFrom_19 rfl (lv_at hl 1 rfl) ?_
        refine va_get (C := RNr) (T := TNr) (N := 10) (ci := 1) (v := .ref (a 1)) hx hb hg inNr hown hK hP 0 rfl rfl 0 (by decide) (hg _ f_Nr_11) (fun _ h9 => h9) rfl dNr_firstFrom_20 ?_
        refine lv_iload_n hx hb dNr_firstFrom_23 rfl (lv_at hl 0 rfl) ?_
        refine va_aldq hx hb hK hP 1 1 rfl rfl (by unfold vp_in; decide) dNr_firstFrom_24 ?_
        refine gx_stk (st' := [.ref (a (2 + 3))]) rfl ?_
        refine va_get (C := RPt) (T := TPt) (N := 4) (ci := 0) (v := .int (σ.P 3 0)) hx hb hg inPt hown hK hP 5 rfl rfl 0 (by decide) (hg _ f_Nr_164) (fun _ h9 => h9) rfl dNr_firstFrom_25 ?_
        exact gx_pret E (by simp [fF, c_4, c_16]) dNr_firstFrom_28
  · have hl : lv_has ls 3 [(0, .ref (a 0)), (1, .int 4)] := hl
    refine lv_iload_n hx hb dNr_firstFrom_0 rfl (lv_at hl 1 rfl) ?_
    refine lv_istore_n (lv' := [(2, .int 4), (0, .ref (a 0)), (1, .int 4)]) hx hb dNr_firstFrom_1 rfl hl (by decide) rfl (fun ls hl => ?_)
    refine lv_iload_n hx hb dNr_firstFrom_2 rfl (lv_at hl 0 rfl) ?_
    refine lv_iconst (v := 4) hx hb dNr_firstFrom_3 (by decide) ?_
    refine lv_icmp_ge (tgt := 35) hx hb dNr_firstFrom_4 (by decide) (fun c_4 => ?_) (fun c_4 => ?_)
    · refine lv_iconst (v := 0) hx hb dNr_firstFrom_35 (by decide) ?_
      exact gx_pret E rfl dNr_firstFrom_36
    · exact absurd c_4 (by decide)
set_option maxHeartbeats 4000000 in
set_option maxRecDepth 100000 in
/-- is x an object's address? -/
theorem qNr_isObject (l : Launch) (D : va_G) (cI cP : ClassId) (a : Nat → Nat) (σ : nSt) (pp : Nat → Nat → Nat) (x : Int32) (h : nInv σ pp) : gx_Mp l yNr_isObject (Cond.code yNr_isObject cNr_isObject 5 (some .boolean) :: gW) (gR 3) D gC (nrT cI cP) (nrW cI cP a σ) [.ref (a 0), .int x] (isOb σ.X pp x) := by
  refine gx_Mp.of (cc := cNr_isObject) (maxL := 5) (ret := (some .boolean)) (by decide) rfl (Nat.le_of_ble_eq_true rfl) ?_
  intro p e s m args below meth c ls E hK hP hD hl
  obtain ⟨hx, hb, hr, hml, hts, hown, hlocks, hnm⟩ := id E
  have hg : ∀ w ∈ gW, w.before args s = true := fun w h => hts w (List.mem_cons_of_mem _ h)
  have hown : s.vm.findClass "NurseryRow" = some m.cls := hown
  have hl : lv_has ls 5 [(0, .ref (a 0)), (1, .int x)] := hl
  rcases pOf_spec h x with hc | hc
  · obtain ⟨i, k, hi, hpo, hxk, hk1, hk2⟩ := hc
    have hLi := h.2.1 i hi
    have hei := h.end hi
    have hfew := hLi.few
    have hN : σ.N < 2 ^ 31 := by omega
    refine lv_aload_n hx hb dNr_isObject_0 rfl (lv_at hl 0 rfl) ?_
    refine lv_iload_n hx hb dNr_isObject_1 rfl (lv_at hl 1 rfl) ?_
    refine gx_callp (C := "NurseryRow") (As := [.int x]) (rest := []) E (qNr_partOf l D cI cP a σ x) (gx_cwV hts l_Nr_142 k_Nr_partOf ki_Nr_partOf ke_Nr_partOf z_Nr n_Nr_partOf ⟨by decide, by decide⟩) hK hP hD (va_recv hK hP (ci := 1) (q0 := 0) rfl rfl) hl.1 rfl rfl (Nat.le_of_ble_eq_true rfl) ⟨Nat.zero_le _, Nat.zero_le _⟩ dNr_isObject_2 ?_
    refine gx_top (z := nI i) hpo ?_
    refine lv_istore_n (lv' := [(2, .int (nI i)), (0, .ref (a 0)), (1, .int x)]) hx hb dNr_isObject_5 rfl hl (by decide) rfl (fun ls hl => ?_)
    refine lv_iload_n hx hb dNr_isObject_6 rfl (lv_at hl 0 rfl) ?_
    refine lv_iconst (v := 4) hx hb dNr_isObject_7 (by decide) ?_
    refine lv_icmp_ne (tgt := 13) hx hb dNr_isObject_8 (by decide) (fun c_8 => ?_) (fun c_8 => ?_)
    · refine lv_aload_n hx hb dNr_isObject_13 rfl (lv_at hl 1 rfl) ?_
      refine va_get (C := RNr) (T := TNr) (N := 10) (ci := 1) (v := .ref (a 1)) hx hb hg inNr hown hK hP 0 rfl rfl 0 (by decide) (hg _ f_Nr_11) (fun _ h9 => h9) rfl dNr_isObject_14 ?_
      refine lv_iload_n hx hb dNr_isObject_17 rfl (lv_at hl 0 rfl) ?_
      refine va_aldq hx hb hK hP 1 1 rfl rfl (vp_in_nI hi (by omega)) dNr_isObject_18 ?_
      refine gx_stk (st' := [.ref (a (2 + i))]) (by rw [nI_clamp (by omega)]; rfl) ?_
      refine va_get (C := RPt) (T := TPt) (N := 4) (ci := 0) (v := .int (σ.P i 0)) hx hb hg inPt hown hK hP (2 + i) (nr_pl cI cP a σ hi) rfl 0 (by decide) (hg _ f_Nr_164) (fun _ h9 => h9) rfl dNr_isObject_19 ?_
      refine gx_top (z := nI (ch σ.X (pp i 0) 0)) (h.1 i hi 0 (by omega)) ?_
      refine lv_istore_n (lv' := [(3, .int (nI (ch σ.X (pp i 0) 0))), (2, .int (nI i)), (0, .ref (a 0)), (1, .int x)]) hx hb dNr_isObject_22 rfl hl (by decide) rfl (fun ls hl => ?_)
      refine lv_iconst (v := 0) hx hb dNr_isObject_23 (by decide) ?_
      refine lv_istore (lv' := [(4, .int 0), (3, .int (nI (ch σ.X (pp i 0) 0))), (2, .int (nI i)), (0, .ref (a 0)), (1, .int x)]) hx hb dNr_isObject_24 hl (by decide) rfl (fun ls hl => ?_)
      have key : ∀ (n : Nat) (j : Nat) (ls : Array Slot), pp i 3 - j < n → (j ≤ pp i 3) → (∀ t, t < j → ch σ.X (pp i 0) t < k) → lv_has ls 5 [(0, .ref (a 0)), (1, .int x), (2, .int (nI i)), (3, .int (nI (ch σ.X (pp i 0) j))), (4, .int (nI j))] → W p l e (gR 3) s m args below meth c s.heap [] 0 0 (MQ below (QcRead (isOb σ.X pp x)) args s 0 0 (fun _ => False)) (F0 m 26 ls []) := by
        intro n
        induction n with
        | zero => intro j ls hm; exact absurd hm (Nat.not_lt_zero _)
        | succ n ih =>
          intro j ls hm hj hjk hl
          refine lv_iload hx hb dNr_isObject_26 (lv_at hl 4 rfl) ?_
          refine lv_aload_n hx hb dNr_isObject_28 rfl (lv_at hl 0 rfl) ?_
          refine va_get (C := RNr) (T := TNr) (N := 10) (ci := 1) (v := .ref (a 1)) hx hb hg inNr hown hK hP 0 rfl rfl 0 (by decide) (hg _ f_Nr_11) (fun _ h9 => h9) rfl dNr_isObject_29 ?_
          refine lv_iload_n hx hb dNr_isObject_32 rfl (lv_at hl 2 rfl) ?_
          refine va_aldq hx hb hK hP 1 1 rfl rfl (vp_in_nI hi (by omega)) dNr_isObject_33 ?_
          refine gx_stk (st' := [.ref (a (2 + i)), .int (nI j)]) (by rw [nI_clamp (by omega)]; rfl) ?_
          refine va_get (C := RPt) (T := TPt) (N := 4) (ci := 0) (v := .int (σ.P i 3)) hx hb hg inPt hown hK hP (2 + i) (nr_pl cI cP a σ hi) rfl 3 (by decide) (hg _ f_Nr_120) (fun _ h9 => h9) rfl dNr_isObject_34 ?_
          refine gx_top (z := nI (pp i 3)) (h.1 i hi 3 (by omega)) ?_
          refine lv_icmp_ge (tgt := 59) hx hb dNr_isObject_37 (by decide) (fun c_37 => ?_) (fun c_37 => ?_)
          · refine lv_iload_n hx hb dNr_isObject_59 rfl (lv_at hl 3 rfl) ?_
            refine lv_iload_n hx hb dNr_isObject_60 rfl (lv_at hl 1 rfl) ?_
            refine lv_icmp_ne (tgt := 68) hx hb dNr_isObject_61 (by decide) (fun c_61 => ?_) (fun c_61 => ?_)
            · refine lv_iconst (v := 0) hx hb dNr_isObject_68 (by decide) ?_
              exact gx_zret E rfl (isob_n h hi hk1 hk2 hxk hjk (Or.inl (Nat.not_lt.mp fun z => nI_ge z (by omega) c_37))).symm dNr_isObject_69
            · refine lv_iconst (v := 1) hx hb dNr_isObject_64 (by decide) ?_
              refine lv_goto (tgt := 69) hx hb dNr_isObject_65 (by decide) ?_
              exact gx_zret E rfl (absurd c_61 (fun z => by have h1 : pp i 3 ≤ j := Nat.not_lt.mp (fun z => nI_ge z (by omega) c_37); have h2 : j = pp i 3 := (by omega); rw [h2, hLi.1, hxk] at z; have h3 := (nI_eq (by omega) (by omega)).mp z; omega)) dNr_isObject_69
          · refine lv_iload_n hx hb dNr_isObject_40 rfl (lv_at hl 3 rfl) ?_
            refine lv_iload_n hx hb dNr_isObject_41 rfl (lv_at hl 1 rfl) ?_
            refine lv_icmp_ge (tgt := 59) hx hb dNr_isObject_42 (by decide) (fun c_42 => ?_) (fun c_42 => ?_)
            · refine lv_iload_n hx hb dNr_isObject_59 rfl (lv_at hl 3 rfl) ?_
              refine lv_iload_n hx hb dNr_isObject_60 rfl (lv_at hl 1 rfl) ?_
              refine lv_icmp_ne (tgt := 68) hx hb dNr_isObject_61 (by decide) (fun c_61 => ?_) (fun c_61 => ?_)
              · refine lv_iconst (v := 0) hx hb dNr_isObject_68 (by decide) ?_
                exact gx_zret E rfl (isob_n h hi hk1 hk2 hxk hjk (Or.inr (by have h1 : j < pp i 3 := Nat.not_le.mp (fun z => c_37 (nI_le z (by omega))); have h2 := hLi.in h1; have h3 : k ≤ ch σ.X (pp i 0) j := Nat.not_lt.mp (fun z => by rw [hxk] at c_42; exact nI_ge z (by omega) c_42); rcases Nat.lt_or_eq_of_le h3 with q | q; exact q; exact absurd (by rw [hxk, q]) c_61))).symm dNr_isObject_69
              · refine lv_iconst (v := 1) hx hb dNr_isObject_64 (by decide) ?_
                refine lv_goto (tgt := 69) hx hb dNr_isObject_65 (by decide) ?_
                exact gx_zret E rfl (isob_y hi (Nat.not_le.mp (fun z => c_37 (nI_le z (by omega)))) c_61).symm dNr_isObject_69
            · refine lv_iload_n hx hb dNr_isObject_45 rfl (lv_at hl 3 rfl) ?_
              refine lv_aload_n hx hb dNr_isObject_46 rfl (lv_at hl 0 rfl) ?_
              refine lv_iload_n hx hb dNr_isObject_47 rfl (lv_at hl 3 rfl) ?_
              have hjl : j < pp i 3 := Nat.not_le.mp fun z => c_37 (nI_le z (by omega))
              have hlt : ch σ.X (pp i 0) j < k := Nat.not_le.mp fun z => c_42 (by rw [hxk]; exact nI_le z (by have := (hLi.in hjl); omega))
              obtain ⟨nf, nw, hf, hw, e1, e2, e3⟩ := hLi.sz hjl
              have hin := hLi.in hjl
              refine gx_callp (C := "NurseryRow") (As := [.int (nI (ch σ.X (pp i 0) j))]) (rest := [.int (nI (ch σ.X (pp i 0) j))]) E (qNr_sizeAt l D cI cP a σ (ch σ.X (pp i 0) j) (by omega) hN) (gx_cwV hts l_Nr_150 k_Nr_sizeAt ki_Nr_sizeAt ke_Nr_sizeAt z_Nr n_Nr_sizeAt ⟨by decide, by decide⟩) hK hP hD (va_recv hK hP (ci := 1) (q0 := 0) rfl rfl) hl.1 rfl rfl (Nat.le_of_ble_eq_true rfl) ⟨Nat.zero_le _, Nat.zero_le _⟩ dNr_isObject_48 ?_
              refine lv_iadd hx hb dNr_isObject_51 ?_
              refine gx_top (z := nI (ch σ.X (pp i 0) (j + 1))) (by rw [e1, e2, show (3 : Int32) = nI 3 from rfl, nI_add, nI_add, nI_add]; simp only [ch, e3]) ?_
              refine lv_istore_n (lv' := [(3, .int (nI (ch σ.X (pp i 0) (j + 1)))), (0, .ref (a 0)), (1, .int x), (2, .int (nI i)), (4, .int (nI j))]) hx hb dNr_isObject_52 rfl hl (by decide) rfl (fun ls hl => ?_)
              refine lv_iinc (v := nI (j + 1)) (lv' := [(4, .int (nI (j + 1))), (3, .int (nI (ch σ.X (pp i 0) (j + 1)))), (0, .ref (a 0)), (1, .int x), (2, .int (nI i))]) hx hb dNr_isObject_53 hl (k := 4) rfl (by rw [← nI_1]; rfl) (by decide) rfl (fun ls hl => ?_)
              refine lv_goto (tgt := 26) hx hb dNr_isObject_56 (by decide) ?_
              exact ih (j + 1) ls (by omega) (by omega) (lt_s hjk hlt) (lv_sub hl [2, 3, 4, 1, 0] rfl)
      exact key ((pp i 3 - 0) + 1) 0 ls (Nat.lt_succ_self _) (Nat.zero_le _) (fun t ht => absurd ht (Nat.not_lt_zero _)) (lv_sub hl [3, 4, 2, 1, 0] rfl)
    · exact absurd c_8 (fun z => by have := (nI_eq (by omega) (by decide)).mp (show nI i = nI 4 from z); omega)
  · obtain ⟨hpo, hno⟩ := hc
    refine lv_aload_n hx hb dNr_isObject_0 rfl (lv_at hl 0 rfl) ?_
    refine lv_iload_n hx hb dNr_isObject_1 rfl (lv_at hl 1 rfl) ?_
    refine gx_callp (C := "NurseryRow") (As := [.int x]) (rest := []) E (qNr_partOf l D cI cP a σ x) (gx_cwV hts l_Nr_142 k_Nr_partOf ki_Nr_partOf ke_Nr_partOf z_Nr n_Nr_partOf ⟨by decide, by decide⟩) hK hP hD (va_recv hK hP (ci := 1) (q0 := 0) rfl rfl) hl.1 rfl rfl (Nat.le_of_ble_eq_true rfl) ⟨Nat.zero_le _, Nat.zero_le _⟩ dNr_isObject_2 ?_
    refine gx_top (z := 4) hpo ?_
    refine lv_istore_n (lv' := [(2, .int 4), (0, .ref (a 0)), (1, .int x)]) hx hb dNr_isObject_5 rfl hl (by decide) rfl (fun ls hl => ?_)
    refine lv_iload_n hx hb dNr_isObject_6 rfl (lv_at hl 0 rfl) ?_
    refine lv_iconst (v := 4) hx hb dNr_isObject_7 (by decide) ?_
    refine lv_icmp_ne (tgt := 13) hx hb dNr_isObject_8 (by decide) (fun c_8 => ?_) (fun c_8 => ?_)
    · exact absurd c_8 (by decide)
    · refine lv_iconst (v := 0) hx hb dNr_isObject_11 (by decide) ?_
      exact gx_zret E rfl (isOb_0 (fun ⟨i, hi, t, ht, e⟩ => by have hl := (h.2.1 i hi).in ht; exact hno i hi (ch σ.X (pp i 0) t) hl.1 (by simp only [szX] at hl; omega) e)).symm dNr_isObject_12
/-- nothing, or an object? -/
noncomputable def isNO (X : Nat → Int32) (pp : Nat → Nat → Nat) (x : Int32) : Int32 := if x = 0 then 1 else if isOb X pp x = 0 then 0 else 1
set_option maxHeartbeats 4000000 in
set_option maxRecDepth 100000 in
/-- nothing, or an object? -/
theorem qNr_isNothingOrObject (l : Launch) (D : va_G) (cI cP : ClassId) (a : Nat → Nat) (σ : nSt) (pp : Nat → Nat → Nat) (x : Int32) (h : nInv σ pp) : gx_Mp l yNr_isNothingOrObject (Cond.code yNr_isNothingOrObject cNr_isNothingOrObject 2 (some .boolean) :: gW) (gR 4) D gC (nrT cI cP) (nrW cI cP a σ) [.ref (a 0), .int x] (isNO σ.X pp x) := by
  refine gx_Mp.of (cc := cNr_isNothingOrObject) (maxL := 2) (ret := (some .boolean)) (by decide) rfl (Nat.le_of_ble_eq_true rfl) ?_
  intro p e s m args below meth c ls E hK hP hD hl
  obtain ⟨hx, hb, hr, hml, hts, hown, hlocks, hnm⟩ := id E
  have hg : ∀ w ∈ gW, w.before args s = true := fun w h => hts w (List.mem_cons_of_mem _ h)
  have hown : s.vm.findClass "NurseryRow" = some m.cls := hown
  have hl : lv_has ls 2 [(0, .ref (a 0)), (1, .int x)] := hl
  refine lv_iload_n hx hb dNr_isNothingOrObject_0 rfl (lv_at hl 1 rfl) ?_
  refine lv_if_eq (tgt := 12) hx hb dNr_isNothingOrObject_1 (by decide) (fun c_1 => ?_) (fun c_1 => ?_)
  · refine lv_iconst (v := 1) hx hb dNr_isNothingOrObject_12 (by decide) ?_
    refine lv_goto (tgt := 17) hx hb dNr_isNothingOrObject_13 (by decide) ?_
    exact gx_zret E rfl (by simp [isNO, c_1]) dNr_isNothingOrObject_17
  · refine lv_aload_n hx hb dNr_isNothingOrObject_4 rfl (lv_at hl 0 rfl) ?_
    refine lv_iload_n hx hb dNr_isNothingOrObject_5 rfl (lv_at hl 1 rfl) ?_
    refine gx_callp (C := "NurseryRow") (As := [.int x]) (rest := []) E (qNr_isObject l D cI cP a σ pp x h) (gx_cwV hts l_Nr_139 k_Nr_isObject ki_Nr_isObject ke_Nr_isObject z_Nr n_Nr_isObject ⟨by decide, by decide⟩) hK hP hD (va_recv hK hP (ci := 1) (q0 := 0) rfl rfl) hl.1 rfl rfl (Nat.le_of_ble_eq_true rfl) ⟨Nat.zero_le _, Nat.zero_le _⟩ dNr_isNothingOrObject_6 ?_
    refine lv_if_eq (tgt := 16) hx hb dNr_isNothingOrObject_9 (by decide) (fun c_9 => ?_) (fun c_9 => ?_)
    · refine lv_iconst (v := 0) hx hb dNr_isNothingOrObject_16 (by decide) ?_
      exact gx_zret E rfl (by simp [isNO, c_1, c_9]) dNr_isNothingOrObject_17
    · refine lv_iconst (v := 1) hx hb dNr_isNothingOrObject_12 (by decide) ?_
      refine lv_goto (tgt := 17) hx hb dNr_isNothingOrObject_13 (by decide) ?_
      exact gx_zret E rfl (by simp [isNO, c_1, c_9]) dNr_isNothingOrObject_17
/-- where a field lies; 0 if there is none -/
noncomputable def fCl (X : Nat → Int32) (pp : Nat → Nat → Nat) (x f : Int32) : Int32 := if isOb X pp x = 0 then 0 else if f < 0 then 0 else if f < X x.toNatClampNeg then x + 3 + f else 0
noncomputable def wCl (X : Nat → Int32) (pp : Nat → Nat → Nat) (x f : Int32) : Int32 := if isOb X pp x = 0 then 0 else if f < 0 then 0 else if f < X (x.toNatClampNeg + 1) then x + 3 + X x.toNatClampNeg + f else 0
set_option maxHeartbeats 4000000 in
set_option maxRecDepth 100000 in
/-- where a field lies -/
theorem qNr_fieldCell (l : Launch) (D : va_G) (cI cP : ClassId) (a : Nat → Nat) (σ : nSt) (pp : Nat → Nat → Nat) (x f : Int32) (h : nInv σ pp) : gx_Mp l yNr_fieldCell (Cond.code yNr_fieldCell cNr_fieldCell 3 (some .int) :: gW) (gR 4) D gC (nrT cI cP) (nrW cI cP a σ) [.ref (a 0), .int x, .int f] (fCl σ.X pp x f) := by
  refine gx_Mp.of (cc := cNr_fieldCell) (maxL := 3) (ret := (some .int)) (by decide) rfl (Nat.le_of_ble_eq_true rfl) ?_
  intro p e s m args below meth c ls E hK hP hD hl
  obtain ⟨hx, hb, hr, hml, hts, hown, hlocks, hnm⟩ := id E
  have hg : ∀ w ∈ gW, w.before args s = true := fun w h => hts w (List.mem_cons_of_mem _ h)
  have hown : s.vm.findClass "NurseryRow" = some m.cls := hown
  have hl : lv_has ls 3 [(0, .ref (a 0)), (1, .int x), (2, .int f)] := hl
  refine lv_aload_n hx hb dNr_fieldCell_0 rfl (lv_at hl 0 rfl) ?_
  refine lv_iload_n hx hb dNr_fieldCell_1 rfl (lv_at hl 1 rfl) ?_
  refine gx_callp (C := "NurseryRow") (As := [.int x]) (rest := []) E (qNr_isObject l D cI cP a σ pp x h) (gx_cwV hts l_Nr_139 k_Nr_isObject ki_Nr_isObject ke_Nr_isObject z_Nr n_Nr_isObject ⟨by decide, by decide⟩) hK hP hD (va_recv hK hP (ci := 1) (q0 := 0) rfl rfl) hl.1 rfl rfl (Nat.le_of_ble_eq_true rfl) ⟨Nat.zero_le _, Nat.zero_le _⟩ dNr_fieldCell_2 ?_
  refine lv_if_eq (tgt := 22) hx hb dNr_fieldCell_5 (by decide) (fun c_5 => ?_) (fun c_5 => ?_)
  · refine lv_iconst (v := 0) hx hb dNr_fieldCell_22 (by decide) ?_
    exact gx_pret E (by simp [fCl, c_5]) dNr_fieldCell_23
  · obtain ⟨i, hi, t, ht, hxt⟩ := isOb_ne c_5
    have hin := (h.2.1 i hi).in ht
    have hen := h.end hi
    have hsz : 3 ≤ szX σ.X (ch σ.X (pp i 0) t) := by simp only [szX]; omega
    have hN : σ.N < 2 ^ 31 := by omega
    refine lv_iload_n hx hb dNr_fieldCell_8 rfl (lv_at hl 2 rfl) ?_
    refine lv_if_lt (tgt := 22) hx hb dNr_fieldCell_9 (by decide) (fun c_9 => ?_) (fun c_9 => ?_)
    · refine lv_iconst (v := 0) hx hb dNr_fieldCell_22 (by decide) ?_
      exact gx_pret E (by simp [fCl, c_5, c_9]) dNr_fieldCell_23
    · refine lv_iload_n hx hb dNr_fieldCell_12 rfl (lv_at hl 2 rfl) ?_
      refine lv_aload_n hx hb dNr_fieldCell_13 rfl (lv_at hl 0 rfl) ?_
      refine va_get (C := RNr) (T := TNr) (N := 10) (ci := 1) (v := .ref σ.hx) hx hb hg inNr hown hK hP 0 rfl rfl 3 (by decide) (hg _ f_Nr_23) (fun _ h9 => h9) rfl dNr_fieldCell_14 ?_
      refine lv_iload_n hx hb dNr_fieldCell_17 rfl (lv_at hl 1 rfl) ?_
      refine va_iald hx hb hK hP 8 0 rfl rfl (by rw [hxt]; exact vp_in_nI (by omega) hN) dNr_fieldCell_18 ?_
      refine lv_icmp_lt (tgt := 24) hx hb dNr_fieldCell_19 (by decide) (fun c_19 => ?_) (fun c_19 => ?_)
      · refine lv_iload_n hx hb dNr_fieldCell_24 rfl (lv_at hl 1 rfl) ?_
        refine lv_iconst (v := 3) hx hb dNr_fieldCell_25 (by decide) ?_
        refine lv_iadd hx hb dNr_fieldCell_26 ?_
        refine lv_iload_n hx hb dNr_fieldCell_27 rfl (lv_at hl 2 rfl) ?_
        refine lv_iadd hx hb dNr_fieldCell_28 ?_
        exact gx_pret E (by simp [fCl, c_5, c_9, c_19]) dNr_fieldCell_29
      · refine lv_iconst (v := 0) hx hb dNr_fieldCell_22 (by decide) ?_
        exact gx_pret E (by simp [fCl, c_5, c_9, c_19]) dNr_fieldCell_23
set_option maxHeartbeats 4000000 in
set_option maxRecDepth 100000 in
/-- where a word lies -/
theorem qNr_wordCell (l : Launch) (D : va_G) (cI cP : ClassId) (a : Nat → Nat) (σ : nSt) (pp : Nat → Nat → Nat) (x f : Int32) (h : nInv σ pp) : gx_Mp l yNr_wordCell (Cond.code yNr_wordCell cNr_wordCell 3 (some .int) :: gW) (gR 4) D gC (nrT cI cP) (nrW cI cP a σ) [.ref (a 0), .int x, .int f] (wCl σ.X pp x f) := by
  refine gx_Mp.of (cc := cNr_wordCell) (maxL := 3) (ret := (some .int)) (by decide) rfl (Nat.le_of_ble_eq_true rfl) ?_
  intro p e s m args below meth c ls E hK hP hD hl
  obtain ⟨hx, hb, hr, hml, hts, hown, hlocks, hnm⟩ := id E
  have hg : ∀ w ∈ gW, w.before args s = true := fun w h => hts w (List.mem_cons_of_mem _ h)
  have hown : s.vm.findClass "NurseryRow" = some m.cls := hown
  have hl : lv_has ls 3 [(0, .ref (a 0)), (1, .int x), (2, .int f)] := hl
  refine lv_aload_n hx hb dNr_wordCell_0 rfl (lv_at hl 0 rfl) ?_
  refine lv_iload_n hx hb dNr_wordCell_1 rfl (lv_at hl 1 rfl) ?_
  refine gx_callp (C := "NurseryRow") (As := [.int x]) (rest := []) E (qNr_isObject l D cI cP a σ pp x h) (gx_cwV hts l_Nr_139 k_Nr_isObject ki_Nr_isObject ke_Nr_isObject z_Nr n_Nr_isObject ⟨by decide, by decide⟩) hK hP hD (va_recv hK hP (ci := 1) (q0 := 0) rfl rfl) hl.1 rfl rfl (Nat.le_of_ble_eq_true rfl) ⟨Nat.zero_le _, Nat.zero_le _⟩ dNr_wordCell_2 ?_
  refine lv_if_eq (tgt := 24) hx hb dNr_wordCell_5 (by decide) (fun c_5 => ?_) (fun c_5 => ?_)
  · refine lv_iconst (v := 0) hx hb dNr_wordCell_24 (by decide) ?_
    exact gx_pret E (by simp [wCl, c_5]) dNr_wordCell_25
  · obtain ⟨i, hi, t, ht, hxt⟩ := isOb_ne c_5
    have hin := (h.2.1 i hi).in ht
    have hen := h.end hi
    have hsz : 3 ≤ szX σ.X (ch σ.X (pp i 0) t) := by simp only [szX]; omega
    have hN : σ.N < 2 ^ 31 := by omega
    refine lv_iload_n hx hb dNr_wordCell_8 rfl (lv_at hl 2 rfl) ?_
    refine lv_if_lt (tgt := 24) hx hb dNr_wordCell_9 (by decide) (fun c_9 => ?_) (fun c_9 => ?_)
    · refine lv_iconst (v := 0) hx hb dNr_wordCell_24 (by decide) ?_
      exact gx_pret E (by simp [wCl, c_5, c_9]) dNr_wordCell_25
    · refine lv_iload_n hx hb dNr_wordCell_12 rfl (lv_at hl 2 rfl) ?_
      refine lv_aload_n hx hb dNr_wordCell_13 rfl (lv_at hl 0 rfl) ?_
      refine va_get (C := RNr) (T := TNr) (N := 10) (ci := 1) (v := .ref σ.hx) hx hb hg inNr hown hK hP 0 rfl rfl 3 (by decide) (hg _ f_Nr_23) (fun _ h9 => h9) rfl dNr_wordCell_14 ?_
      refine lv_iload_n hx hb dNr_wordCell_17 rfl (lv_at hl 1 rfl) ?_
      refine lv_iconst (v := 1) hx hb dNr_wordCell_18 (by decide) ?_
      refine lv_iadd hx hb dNr_wordCell_19 ?_
      refine va_iald hx hb hK hP 8 0 rfl rfl (by rw [hxt, nI_1]; exact vp_in_nI (by omega) hN) dNr_wordCell_20 ?_
      refine gx_top (z := σ.X (x.toNatClampNeg + 1)) (by rw [hxt, nI_1, nI_clamp (by omega), nI_clamp (by omega)]) ?_
      refine lv_icmp_lt (tgt := 26) hx hb dNr_wordCell_21 (by decide) (fun c_21 => ?_) (fun c_21 => ?_)
      · refine lv_iload_n hx hb dNr_wordCell_26 rfl (lv_at hl 1 rfl) ?_
        refine lv_iconst (v := 3) hx hb dNr_wordCell_27 (by decide) ?_
        refine lv_iadd hx hb dNr_wordCell_28 ?_
        refine lv_aload_n hx hb dNr_wordCell_29 rfl (lv_at hl 0 rfl) ?_
        refine va_get (C := RNr) (T := TNr) (N := 10) (ci := 1) (v := .ref σ.hx) hx hb hg inNr hown hK hP 0 rfl rfl 3 (by decide) (hg _ f_Nr_23) (fun _ h9 => h9) rfl dNr_wordCell_30 ?_
        refine lv_iload_n hx hb dNr_wordCell_33 rfl (lv_at hl 1 rfl) ?_
        refine va_iald hx hb hK hP 8 0 rfl rfl (by rw [hxt]; exact vp_in_nI (by omega) hN) dNr_wordCell_34 ?_
        refine lv_iadd hx hb dNr_wordCell_35 ?_
        refine lv_iload_n hx hb dNr_wordCell_36 rfl (lv_at hl 2 rfl) ?_
        refine lv_iadd hx hb dNr_wordCell_37 ?_
        exact gx_pret E (by simp [wCl, c_5, c_9, c_21]) dNr_wordCell_38
      · refine lv_iconst (v := 0) hx hb dNr_wordCell_24 (by decide) ?_
        exact gx_pret E (by simp [wCl, c_5, c_9, c_21]) dNr_wordCell_25
set_option maxHeartbeats 4000000 in
set_option maxRecDepth 100000 in
/-- a cell becomes v: what it was -/
theorem qNr_exchange (l : Launch) (D : va_G) (cI cP : ClassId) (a : Nat → Nat) (σ : nSt) (k : Nat) (v : Int32) (hk : k < σ.N) (hN : σ.N < 2 ^ 31) : gx_Mi l yNr_exchange (Cond.code yNr_exchange cNr_exchange 4 (some .int) :: gW) (gR 0) D gC (nrT cI cP) (nrW cI cP a) σ [.ref (a 0), .int (nI k), .int v] (fun r u => r = σ.X k ∧ u = σ.sX (upd σ.X k v)) := by
  refine gx_Mi.of (cc := cNr_exchange) (maxL := 4) (ret := (some .int)) (by decide) rfl (Nat.le_of_ble_eq_true rfl) ?_
  intro p e s m args below meth c ls A E hA hK hP hD hS hl
  obtain ⟨hx, hb, hr, hml, hts, hown, hlocks, hnm⟩ := id E
  have hg : ∀ w ∈ gW, w.before args s = true := fun w h => hts w (List.mem_cons_of_mem _ h)
  have hown : s.vm.findClass "NurseryRow" = some m.cls := hown
  have hl : lv_has ls 4 [(0, .ref (a 0)), (1, .int (nI k)), (2, .int v)] := hl
  refine lv_aload_n hx hb dNr_exchange_0 rfl (lv_at hl 0 rfl) ?_
  refine va_get (C := RNr) (T := TNr) (N := 10) (ci := 1) (v := .ref σ.hx) hx hb hg inNr hown hK hP 0 rfl rfl 3 (by decide) (hg _ f_Nr_23) (fun _ h9 => h9) rfl dNr_exchange_1 ?_
  refine lv_iload_n hx hb dNr_exchange_4 rfl (lv_at hl 1 rfl) ?_
  refine va_iald hx hb hK hP 8 0 rfl rfl (vp_in_nI hk hN) dNr_exchange_5 ?_
  refine gx_top (z := σ.X k) (by rw [nI_clamp (by omega)]) ?_
  refine lv_istore_n (lv' := [(3, .int (σ.X k)), (0, .ref (a 0)), (1, .int (nI k)), (2, .int v)]) hx hb dNr_exchange_6 rfl hl (by decide) rfl (fun ls hl => ?_)
  refine lv_aload_n hx hb dNr_exchange_7 rfl (lv_at hl 1 rfl) ?_
  refine va_get (C := RNr) (T := TNr) (N := 10) (ci := 1) (v := .ref σ.hx) hx hb hg inNr hown hK hP 0 rfl rfl 3 (by decide) (hg _ f_Nr_23) (fun _ h9 => h9) rfl dNr_exchange_8 ?_
  refine lv_iload_n hx hb dNr_exchange_11 rfl (lv_at hl 2 rfl) ?_
  refine lv_iload_n hx hb dNr_exchange_12 rfl (lv_at hl 3 rfl) ?_
  refine va_iast hx hb hK hP hD hS 8 0 rfl rfl (vp_in_nI hk hN) dNr_exchange_13 (fun H locs hP hD hS => ?_)
  rw [nI_clamp (show k < 2 ^ 31 by omega)] at hP hD
  have hP : va_P D gC (nrW cI cP a (σ.sX (upd σ.X k v))) H := hP
  have hD : va_D A (nrW cI cP a (σ.sX (upd σ.X k v))) := hD
  refine lv_iload_n hx hb dNr_exchange_14 rfl (lv_at hl 0 rfl) ?_
  exact gx_iret (u := σ.sX (upd σ.X k v)) E hK hP hD hS ⟨rfl, rfl⟩ dNr_exchange_15
/-- is x young, where the row in use is c? -/
def isY (σ : nSt) (c : Nat) (x : Int32) : Int32 := if ptCov (σ.P 0 0) (σ.P 0 2) x = 0 then (if ptCov (σ.P (1 + c) 0) (σ.P (1 + c) 2) x = 0 then 0 else 1) else 1
set_option maxHeartbeats 4000000 in
set_option maxRecDepth 100000 in
/-- is x young? -/
theorem qNr_isYoung (l : Launch) (D : va_G) (cI cP : ClassId) (a : Nat → Nat) (σ : nSt) (c0 : Nat) (x : Int32) (hrw : (σ.F 2 = 0 ∧ c0 = 0) ∨ (σ.F 2 = 1 ∧ c0 = 1)) : gx_Mp l yNr_isYoung (Cond.code yNr_isYoung cNr_isYoung 2 (some .boolean) :: gW) (gR 2) D gC (nrT cI cP) (nrW cI cP a σ) [.ref (a 0), .int x] (isY σ c0 x) := by
  refine gx_Mp.of (cc := cNr_isYoung) (maxL := 2) (ret := (some .boolean)) (by decide) rfl (Nat.le_of_ble_eq_true rfl) ?_
  intro p e s m args below meth c ls E hK hP hD hl
  obtain ⟨hx, hb, hr, hml, hts, hown, hlocks, hnm⟩ := id E
  have hg : ∀ w ∈ gW, w.before args s = true := fun w h => hts w (List.mem_cons_of_mem _ h)
  have hown : s.vm.findClass "NurseryRow" = some m.cls := hown
  have hl : lv_has ls 2 [(0, .ref (a 0)), (1, .int x)] := hl
  rcases hrw with ⟨hrw, rfl⟩ | ⟨hrw, rfl⟩
  · refine lv_aload_n hx hb dNr_isYoung_0 rfl (lv_at hl 0 rfl) ?_
    refine va_get (C := RNr) (T := TNr) (N := 10) (ci := 1) (v := .ref (a 1)) hx hb hg inNr hown hK hP 0 rfl rfl 0 (by decide) (hg _ f_Nr_11) (fun _ h9 => h9) rfl dNr_isYoung_1 ?_
    refine lv_iconst (v := 0) hx hb dNr_isYoung_4 (by decide) ?_
    refine va_aldq hx hb hK hP 1 1 rfl rfl (by unfold vp_in; decide) dNr_isYoung_5 ?_
    refine gx_stk (st' := [.ref (a (2 + 0))]) rfl ?_
    refine lv_iload_n hx hb dNr_isYoung_6 rfl (lv_at hl 1 rfl) ?_
    refine gx_callp (C := "NurseryRow$Part") (As := [.int x]) (rest := []) E (nr_liftp (i := 0) (by decide) (qPt_covers l D _ (a (2 + 0)) (σ.p 0) x)) (gx_cwV hts l_Nr_153 k_Pt_covers ki_Pt_covers ke_Pt_covers z_Pt n_Pt_covers ⟨by decide, by decide⟩) hK hP hD (va_recv hK hP (ci := 0) (q0 := 2) rfl rfl) hl.1 rfl rfl (Nat.le_of_ble_eq_true rfl) ⟨Nat.zero_le _, Nat.zero_le _⟩ dNr_isYoung_7 ?_
    refine gx_top (z := ptCov (σ.P 0 0) (σ.P 0 2) x) rfl ?_
    refine lv_if_ne (tgt := 31) hx hb dNr_isYoung_10 (by decide) (fun c_10 => ?_) (fun c_10 => ?_)
    · refine lv_iconst (v := 1) hx hb dNr_isYoung_31 (by decide) ?_
      refine lv_goto (tgt := 36) hx hb dNr_isYoung_32 (by decide) ?_
      exact gx_zret E rfl (by simp [isY, c_10]) dNr_isYoung_36
    · refine lv_aload_n hx hb dNr_isYoung_13 rfl (lv_at hl 0 rfl) ?_
      refine va_get (C := RNr) (T := TNr) (N := 10) (ci := 1) (v := .ref (a 1)) hx hb hg inNr hown hK hP 0 rfl rfl 0 (by decide) (hg _ f_Nr_11) (fun _ h9 => h9) rfl dNr_isYoung_14 ?_
      refine lv_iconst (v := 1) hx hb dNr_isYoung_17 (by decide) ?_
      refine lv_aload_n hx hb dNr_isYoung_18 rfl (lv_at hl 0 rfl) ?_
      refine va_get (C := RNr) (T := TNr) (N := 10) (ci := 1) (v := .int (σ.F 2)) hx hb hg inNr hown hK hP 0 rfl rfl 6 (by decide) (hg _ f_Nr_58) (fun _ h9 => h9) rfl dNr_isYoung_19 ?_
      refine gx_top (z := 0) hrw ?_
      refine lv_iadd hx hb dNr_isYoung_22 ?_
      refine gx_top (z := 1) (by decide) ?_
      refine va_aldq hx hb hK hP 1 1 rfl rfl (by unfold vp_in; decide) dNr_isYoung_23 ?_
      refine gx_stk (st' := [.ref (a (2 + 1))]) rfl ?_
      refine lv_iload_n hx hb dNr_isYoung_24 rfl (lv_at hl 1 rfl) ?_
      refine gx_callp (C := "NurseryRow$Part") (As := [.int x]) (rest := []) E (nr_liftp (i := 1) (by decide) (qPt_covers l D _ (a (2 + 1)) (σ.p 1) x)) (gx_cwV hts l_Nr_153 k_Pt_covers ki_Pt_covers ke_Pt_covers z_Pt n_Pt_covers ⟨by decide, by decide⟩) hK hP hD (va_recv hK hP (ci := 0) (q0 := 3) rfl rfl) hl.1 rfl rfl (Nat.le_of_ble_eq_true rfl) ⟨Nat.zero_le _, Nat.zero_le _⟩ dNr_isYoung_25 ?_
      refine gx_top (z := ptCov (σ.P 1 0) (σ.P 1 2) x) rfl ?_
      refine lv_if_eq (tgt := 35) hx hb dNr_isYoung_28 (by decide) (fun c_28 => ?_) (fun c_28 => ?_)
      · refine lv_iconst (v := 0) hx hb dNr_isYoung_35 (by decide) ?_
        exact gx_zret E rfl (by simp [isY, c_10, c_28]) dNr_isYoung_36
      · refine lv_iconst (v := 1) hx hb dNr_isYoung_31 (by decide) ?_
        refine lv_goto (tgt := 36) hx hb dNr_isYoung_32 (by decide) ?_
        exact gx_zret E rfl (by simp [isY, c_10, c_28]) dNr_isYoung_36
  · refine lv_aload_n hx hb dNr_isYoung_0 rfl (lv_at hl 0 rfl) ?_
    refine va_get (C := RNr) (T := TNr) (N := 10) (ci := 1) (v := .ref (a 1)) hx hb hg inNr hown hK hP 0 rfl rfl 0 (by decide) (hg _ f_Nr_11) (fun _ h9 => h9) rfl dNr_isYoung_1 ?_
    refine lv_iconst (v := 0) hx hb dNr_isYoung_4 (by decide) ?_
    refine va_aldq hx hb hK hP 1 1 rfl rfl (by unfold vp_in; decide) dNr_isYoung_5 ?_
    refine gx_stk (st' := [.ref (a (2 + 0))]) rfl ?_
    refine lv_iload_n hx hb dNr_isYoung_6 rfl (lv_at hl 1 rfl) ?_
    refine gx_callp (C := "NurseryRow$Part") (As := [.int x]) (rest := []) E (nr_liftp (i := 0) (by decide) (qPt_covers l D _ (a (2 + 0)) (σ.p 0) x)) (gx_cwV hts l_Nr_153 k_Pt_covers ki_Pt_covers ke_Pt_covers z_Pt n_Pt_covers ⟨by decide, by decide⟩) hK hP hD (va_recv hK hP (ci := 0) (q0 := 2) rfl rfl) hl.1 rfl rfl (Nat.le_of_ble_eq_true rfl) ⟨Nat.zero_le _, Nat.zero_le _⟩ dNr_isYoung_7 ?_
    refine gx_top (z := ptCov (σ.P 0 0) (σ.P 0 2) x) rfl ?_
    refine lv_if_ne (tgt := 31) hx hb dNr_isYoung_10 (by decide) (fun c_10 => ?_) (fun c_10 => ?_)
    · refine lv_iconst (v := 1) hx hb dNr_isYoung_31 (by decide) ?_
      refine lv_goto (tgt := 36) hx hb dNr_isYoung_32 (by decide) ?_
      exact gx_zret E rfl (by simp [isY, c_10]) dNr_isYoung_36
    · refine lv_aload_n hx hb dNr_isYoung_13 rfl (lv_at hl 0 rfl) ?_
      refine va_get (C := RNr) (T := TNr) (N := 10) (ci := 1) (v := .ref (a 1)) hx hb hg inNr hown hK hP 0 rfl rfl 0 (by decide) (hg _ f_Nr_11) (fun _ h9 => h9) rfl dNr_isYoung_14 ?_
      refine lv_iconst (v := 1) hx hb dNr_isYoung_17 (by decide) ?_
      refine lv_aload_n hx hb dNr_isYoung_18 rfl (lv_at hl 0 rfl) ?_
      refine va_get (C := RNr) (T := TNr) (N := 10) (ci := 1) (v := .int (σ.F 2)) hx hb hg inNr hown hK hP 0 rfl rfl 6 (by decide) (hg _ f_Nr_58) (fun _ h9 => h9) rfl dNr_isYoung_19 ?_
      refine gx_top (z := 1) hrw ?_
      refine lv_iadd hx hb dNr_isYoung_22 ?_
      refine gx_top (z := 2) (by decide) ?_
      refine va_aldq hx hb hK hP 1 1 rfl rfl (by unfold vp_in; decide) dNr_isYoung_23 ?_
      refine gx_stk (st' := [.ref (a (2 + 2))]) rfl ?_
      refine lv_iload_n hx hb dNr_isYoung_24 rfl (lv_at hl 1 rfl) ?_
      refine gx_callp (C := "NurseryRow$Part") (As := [.int x]) (rest := []) E (nr_liftp (i := 2) (by decide) (qPt_covers l D _ (a (2 + 2)) (σ.p 2) x)) (gx_cwV hts l_Nr_153 k_Pt_covers ki_Pt_covers ke_Pt_covers z_Pt n_Pt_covers ⟨by decide, by decide⟩) hK hP hD (va_recv hK hP (ci := 0) (q0 := 4) rfl rfl) hl.1 rfl rfl (Nat.le_of_ble_eq_true rfl) ⟨Nat.zero_le _, Nat.zero_le _⟩ dNr_isYoung_25 ?_
      refine gx_top (z := ptCov (σ.P 2 0) (σ.P 2 2) x) rfl ?_
      refine lv_if_eq (tgt := 35) hx hb dNr_isYoung_28 (by decide) (fun c_28 => ?_) (fun c_28 => ?_)
      · refine lv_iconst (v := 0) hx hb dNr_isYoung_35 (by decide) ?_
        exact gx_zret E rfl (by simp [isY, c_10, c_28]) dNr_isYoung_36
      · refine lv_iconst (v := 1) hx hb dNr_isYoung_31 (by decide) ?_
        refine lv_goto (tgt := 36) hx hb dNr_isYoung_32 (by decide) ?_
        exact gx_zret E rfl (by simp [isY, c_10, c_28]) dNr_isYoung_36
end
section
/-! THE CLASS, a copy -/
theorem kx_st : Cond.static arraycopyName ∈ gW := gm 330 (by decide +kernel) (by decide +kernel)
theorem kx_na : Cond.native arraycopyName ∈ gW := gm 331 (by decide +kernel) (by decide +kernel)
set_option maxHeartbeats 4000000 in
set_option maxRecDepth 100000 in
/-- the copy's address is noted -/
theorem qNr_noteCopy (l : Launch) (D : va_G) (cI cP : ClassId) (a : Nat → Nat) (σ : nSt) (n : Nat) (b : Int32) (hn : n < 512) (hF : σ.F 0 = nI n) : gx_Mv l yNr_noteCopy (Cond.code yNr_noteCopy cNr_noteCopy 2 none :: gW) (gR 0) D gC (nrT cI cP) (nrW cI cP a) σ [.ref (a 0), .int b] (fun u => u = (σ.sC (upd σ.C n b)).sF 0 (nI (n + 1))) := by
  refine gx_Mv.of (cc := cNr_noteCopy) (maxL := 2) (by decide) rfl (Nat.le_of_ble_eq_true rfl) ?_
  intro p e s m args below meth c ls A E hA hK hP hD hS hl
  obtain ⟨hx, hb, hr, hml, hts, hown, hlocks, hnm⟩ := id E
  have hg : ∀ w ∈ gW, w.before args s = true := fun w h => hts w (List.mem_cons_of_mem _ h)
  have hown : s.vm.findClass "NurseryRow" = some m.cls := hown
  have hl : lv_has ls 2 [(0, .ref (a 0)), (1, .int b)] := hl
  refine lv_aload_n hx hb dNr_noteCopy_0 rfl (lv_at hl 0 rfl) ?_
  refine va_get (C := RNr) (T := TNr) (N := 10) (ci := 1) (v := .int (σ.F 0)) hx hb hg inNr hown hK hP 0 rfl rfl 4 (by decide) (hg _ f_Nr_123) (fun _ h9 => h9) rfl dNr_noteCopy_1 ?_
  refine gx_top (z := nI n) hF ?_
  refine lv_aload_n hx hb dNr_noteCopy_4 rfl (lv_at hl 0 rfl) ?_
  refine va_get (C := RNr) (T := TNr) (N := 10) (ci := 1) (v := .ref (a 7)) hx hb hg inNr hown hK hP 0 rfl rfl 2 (by decide) (hg _ f_Nr_20) (fun _ h9 => h9) rfl dNr_noteCopy_5 ?_
  refine va_alen (v := 512) hx hb hK hP 7 0 rfl rfl rfl dNr_noteCopy_8 ?_
  refine lv_icmp_ge (tgt := 32) hx hb dNr_noteCopy_9 (by decide) (fun c_9 => ?_) (fun c_9 => ?_)
  · exact absurd c_9 (nI_ge (b := 512) hn (by decide))
  · refine lv_aload_n hx hb dNr_noteCopy_12 rfl (lv_at hl 0 rfl) ?_
    refine va_get (C := RNr) (T := TNr) (N := 10) (ci := 1) (v := .ref (a 7)) hx hb hg inNr hown hK hP 0 rfl rfl 2 (by decide) (hg _ f_Nr_20) (fun _ h9 => h9) rfl dNr_noteCopy_13 ?_
    refine lv_aload_n hx hb dNr_noteCopy_16 rfl (lv_at hl 0 rfl) ?_
    refine va_get (C := RNr) (T := TNr) (N := 10) (ci := 1) (v := .int (σ.F 0)) hx hb hg inNr hown hK hP 0 rfl rfl 4 (by decide) (hg _ f_Nr_123) (fun _ h9 => h9) rfl dNr_noteCopy_17 ?_
    refine gx_top (z := nI n) hF ?_
    refine lv_iload_n hx hb dNr_noteCopy_20 rfl (lv_at hl 1 rfl) ?_
    refine va_iast hx hb hK hP hD hS 7 0 rfl rfl (vp_in_nI hn (by omega)) dNr_noteCopy_21 (fun H locs hP hD hS => ?_)
    rw [nI_clamp (show n < 2 ^ 31 by omega)] at hP hD
    have hP : va_P D gC (nrW cI cP a (σ.sC (upd σ.C n b))) H := hP
    have hD : va_D A (nrW cI cP a (σ.sC (upd σ.C n b))) := hD
    refine lv_aload_n hx hb dNr_noteCopy_22 rfl (lv_at hl 0 rfl) ?_
    refine lv_dup hx hb dNr_noteCopy_23 rfl ?_
    refine va_get (C := RNr) (T := TNr) (N := 10) (ci := 1) (v := .int (σ.F 0)) hx hb hg inNr hown hK hP 0 rfl rfl 4 (by decide) (hg _ f_Nr_123) (fun _ h9 => h9) rfl dNr_noteCopy_24 ?_
    refine gx_top (z := nI n) hF ?_
    refine lv_iconst (v := 1) hx hb dNr_noteCopy_27 (by decide) ?_
    refine lv_iadd hx hb dNr_noteCopy_28 ?_
    refine gx_top (z := nI (n + 1)) (nI_1 n) ?_
    refine va_put (C := RNr) (T := TNr) (N := 10) (ci := 1) (v := .int (nI (n + 1))) hx hb hg inNr tyNr tyNr_ok nmNr hown hK hP hD hS 0 rfl rfl 4 (by decide) (hg _ f_Nr_123) (fun _ h9 => h9) rfl (tyNr_ok 4 (by decide)) rfl rfl (Nat.le_of_ble_eq_true rfl) dNr_noteCopy_29 (fun H locs hP hD hS => ?_)
    have hP : va_P D gC (nrW cI cP a ((σ.sC (upd σ.C n b)).sF 0 (nI (n + 1)))) H := hP
    have hD : va_D A (nrW cI cP a ((σ.sC (upd σ.C n b)).sF 0 (nI (n + 1)))) := hD
    exact gx_vret (u := (σ.sC (upd σ.C n b)).sF 0 (nI (n + 1))) E hK hP hD hS rfl dNr_noteCopy_32
/-- a copy to a row: part j, from k, sz cells, to b, the nc-th -/
def cpR (σ : nSt) (j k sz b nc : Nat) : nSt :=
  ((((((σ.sP j (σ.P j 0, σ.P j 1, σ.P j 2 + nI sz, σ.P j 3 + 1)).sX (va_cpy σ.X σ.X k b sz)).sX (upd (va_cpy σ.X σ.X k b sz) (b + 2) (va_cpy σ.X σ.X k b sz (b + 2) + 1))).sF 4 (σ.F 4 + 1)).sX (upd (upd (va_cpy σ.X σ.X k b sz) (b + 2) (va_cpy σ.X σ.X k b sz (b + 2) + 1)) k (-nI b))).sC (upd σ.C nc (nI b))).sF 0 (nI (nc + 1))
/-- a copy to OLD -/
def cpO (σ : nSt) (k sz b nc : Nat) : nSt :=
  (((((σ.sP 3 (σ.P 3 0, σ.P 3 1, σ.P 3 2 + nI sz, σ.P 3 3 + 1)).sX (va_cpy σ.X σ.X k b sz)).sF 5 (σ.F 5 + 1)).sX (upd (va_cpy σ.X σ.X k b sz) k (-nI b))).sC (upd σ.C nc (nI b))).sF 0 (nI (nc + 1))
set_option maxHeartbeats 4000000 in
set_option maxRecDepth 100000 in
/-- a copy to a row -/
theorem qNr_copyOfR (l : Launch) (D : va_G) (cI cP : ClassId) (a : Nat → Nat) (σ : nSt) (j k nf nw f us nc : Nat) (hX0 : σ.X k = nI nf) (hX1 : σ.X (k + 1) = nI nw) (hnf : nf ≤ 200) (hnw : nw ≤ 200) (hk : k + (3 + nf + nw) ≤ σ.N) (hN : σ.N < 2 ^ 31) (hPf : σ.P j 0 = nI f) (hPu : σ.P j 2 = nI us) (hb2 : f + us + (3 + nf + nw) ≤ σ.N) (hnc : nc < 512) (hF0 : σ.F 0 = nI nc) (hrw : (σ.F 2 = 0 ∧ j = 2) ∨ (σ.F 2 = 1 ∧ j = 1)) (hage : σ.X (k + 2) < σ.F 1) (hfree : ¬ σ.P j 1 - σ.P j 2 < nI (3 + nf + nw)) : gx_Mi l yNr_copyOf (Cond.code yNr_copyOf cNr_copyOf 6 (some .int) :: gW) (gR 3) D gC (nrT cI cP) (nrW cI cP a) σ [.ref (a 0), .int (nI k)] (fun r u => r = nI (f + us) ∧ u = cpR σ j k (3 + nf + nw) (f + us) nc) := by
  refine gx_Mi.of (cc := cNr_copyOf) (maxL := 6) (ret := (some .int)) (by decide) rfl (Nat.le_of_ble_eq_true rfl) ?_
  intro p e s m args below meth c ls A E hA hK hP hD hS hl
  obtain ⟨hx, hb, hr, hml, hts, hown, hlocks, hnm⟩ := id E
  have hg : ∀ w ∈ gW, w.before args s = true := fun w h => hts w (List.mem_cons_of_mem _ h)
  have hown : s.vm.findClass "NurseryRow" = some m.cls := hown
  have hl : lv_has ls 6 [(0, .ref (a 0)), (1, .int (nI k))] := hl
  rcases hrw with ⟨hrw, rfl⟩ | ⟨hrw, rfl⟩
  · refine lv_aload_n hx hb dNr_copyOf_0 rfl (lv_at hl 0 rfl) ?_
    refine lv_iload_n hx hb dNr_copyOf_1 rfl (lv_at hl 1 rfl) ?_
    refine gx_callp (C := "NurseryRow") (As := [.int (nI k)]) (rest := []) E (qNr_sizeAt l D cI cP a σ k (by omega) hN) (gx_cwV hts l_Nr_150 k_Nr_sizeAt ki_Nr_sizeAt ke_Nr_sizeAt z_Nr n_Nr_sizeAt ⟨by decide, by decide⟩) hK hP hD (va_recv hK hP (ci := 1) (q0 := 0) rfl rfl) hl.1 rfl rfl (Nat.le_of_ble_eq_true rfl) ⟨Nat.zero_le _, Nat.zero_le _⟩ dNr_copyOf_2 ?_
    refine gx_top (z := nI (3 + nf + nw)) (by rw [hX0, hX1, show (3 : Int32) = nI 3 from rfl, nI_add, nI_add]) ?_
    refine lv_istore_n (lv' := [(2, .int (nI (3 + nf + nw))), (0, .ref (a 0)), (1, .int (nI k))]) hx hb dNr_copyOf_5 rfl hl (by decide) rfl (fun ls hl => ?_)
    refine lv_aload_n hx hb dNr_copyOf_6 rfl (lv_at hl 1 rfl) ?_
    refine va_get (C := RNr) (T := TNr) (N := 10) (ci := 1) (v := .ref (a 1)) hx hb hg inNr hown hK hP 0 rfl rfl 0 (by decide) (hg _ f_Nr_11) (fun _ h9 => h9) rfl dNr_copyOf_7 ?_
    refine lv_iconst (v := 2) hx hb dNr_copyOf_10 (by decide) ?_
    refine lv_aload_n hx hb dNr_copyOf_11 rfl (lv_at hl 1 rfl) ?_
    refine va_get (C := RNr) (T := TNr) (N := 10) (ci := 1) (v := .int (σ.F 2)) hx hb hg inNr hown hK hP 0 rfl rfl 6 (by decide) (hg _ f_Nr_58) (fun _ h9 => h9) rfl dNr_copyOf_12 ?_
    refine gx_top (z := 0) hrw ?_
    refine lv_isub hx hb dNr_copyOf_15 ?_
    refine gx_top (z := 2) (by decide) ?_
    refine va_aldq hx hb hK hP 1 1 rfl rfl (by unfold vp_in; decide) dNr_copyOf_16 ?_
    refine gx_stk (st' := [.ref (a (2 + 2))]) rfl ?_
    refine lv_astore_n (lv' := [(3, .ref (a (2 + 2))), (2, .int (nI (3 + nf + nw))), (0, .ref (a 0)), (1, .int (nI k))]) hx hb dNr_copyOf_17 rfl hl (by decide) rfl (fun ls hl => ?_)
    refine lv_aload_n hx hb dNr_copyOf_18 rfl (lv_at hl 2 rfl) ?_
    refine va_get (C := RNr) (T := TNr) (N := 10) (ci := 1) (v := .ref σ.hx) hx hb hg inNr hown hK hP 0 rfl rfl 3 (by decide) (hg _ f_Nr_23) (fun _ h9 => h9) rfl dNr_copyOf_19 ?_
    refine lv_iload_n hx hb dNr_copyOf_22 rfl (lv_at hl 3 rfl) ?_
    refine lv_iconst (v := 2) hx hb dNr_copyOf_23 (by decide) ?_
    refine lv_iadd hx hb dNr_copyOf_24 ?_
    refine gx_top (z := nI (k + 2)) (by rw [show (2 : Int32) = nI 2 from rfl, nI_add]) ?_
    refine va_iald hx hb hK hP 8 0 rfl rfl (vp_in_nI (show k + 2 < σ.N by omega) hN) dNr_copyOf_25 ?_
    refine gx_top (z := σ.X (k + 2)) (congrArg _ (nI_clamp (show k + 2 < 2 ^ 31 by omega))) ?_
    refine lv_aload_n hx hb dNr_copyOf_26 rfl (lv_at hl 2 rfl) ?_
    refine va_get (C := RNr) (T := TNr) (N := 10) (ci := 1) (v := .int (σ.F 1)) hx hb hg inNr hown hK hP 0 rfl rfl 5 (by decide) (hg _ f_Nr_26) (fun _ h9 => h9) rfl dNr_copyOf_27 ?_
    refine lv_icmp_ge (tgt := 45) hx hb dNr_copyOf_30 (by decide) (fun c_30 => ?_) (fun c_30 => ?_)
    · exact absurd c_30 (Int32.not_le.mpr hage)
    · refine lv_aload_n hx hb dNr_copyOf_33 rfl (lv_at hl 0 rfl) ?_
      refine gx_callp (C := "NurseryRow$Part") (As := []) (rest := []) E (nr_liftp (i := 2) (by decide) (qPt_free l D _ (a (2 + 2)) (σ.p 2))) (gx_cwV hts l_Nr_74 k_Pt_free ki_Pt_free ke_Pt_free z_Pt n_Pt_free ⟨by decide, by decide⟩) hK hP hD (va_recv hK hP (ci := 0) (q0 := 4) rfl rfl) hl.1 rfl rfl (Nat.le_of_ble_eq_true rfl) ⟨Nat.zero_le _, Nat.zero_le _⟩ dNr_copyOf_34 ?_
      refine gx_top (z := (σ.P 2 1) - (σ.P 2 2)) rfl ?_
      refine lv_iload_n hx hb dNr_copyOf_37 rfl (lv_at hl 1 rfl) ?_
      refine lv_icmp_lt (tgt := 45) hx hb dNr_copyOf_38 (by decide) (fun c_38 => ?_) (fun c_38 => ?_)
      · exact absurd c_38 hfree
      · refine lv_iconst (v := 1) hx hb dNr_copyOf_41 (by decide) ?_
        refine lv_goto (tgt := 46) hx hb dNr_copyOf_42 (by decide) ?_
        refine lv_istore (lv' := [(4, .int 1), (3, .ref (a (2 + 2))), (2, .int (nI (3 + nf + nw))), (0, .ref (a 0)), (1, .int (nI k))]) hx hb dNr_copyOf_46 hl (by decide) rfl (fun ls hl => ?_)
        refine lv_iload hx hb dNr_copyOf_48 (lv_at hl 0 rfl) ?_
        refine lv_if_eq (tgt := 61) hx hb dNr_copyOf_50 (by decide) (fun c_50 => ?_) (fun c_50 => ?_)
        · exact absurd c_50 (by decide)
        · refine lv_aload_n hx hb dNr_copyOf_53 rfl (lv_at hl 1 rfl) ?_
          refine lv_iload_n hx hb dNr_copyOf_54 rfl (lv_at hl 2 rfl) ?_
          refine gx_calli (C := "NurseryRow$Part") (As := [.int (nI (3 + nf + nw))]) (rest := []) E (nr_lifti (i := 2) (by decide) (qPt_take l D _ (a (2 + 2)) (σ.p 2) (nI (3 + nf + nw)))) (gx_cwV hts l_Nr_77 k_Pt_take ki_Pt_take ke_Pt_take z_Pt n_Pt_take ⟨by decide, by decide⟩) hK hP hD hS hA (va_recv hK hP (ci := 0) (q0 := 4) rfl rfl) hl.1 rfl rfl (Nat.le_of_ble_eq_true rfl) ⟨by decide, by decide⟩ dNr_copyOf_55 (fun r_1 u_2 H locs hq_3 hP hD hS => ?_)
          obtain ⟨v, ⟨hr1, hv⟩, hu⟩ := hq_3
          subst hu; subst hv
          have hr1 : r_1 = (σ.P 2 0) + (σ.P 2 2) := hr1
          subst hr1
          have hP : va_P D gC (nrW cI cP a (σ.sP 2 (σ.P 2 0, σ.P 2 1, (σ.P 2 2) + (nI (3 + nf + nw)), (σ.P 2 3) + 1))) H := hP
          have hD : va_D A (nrW cI cP a (σ.sP 2 (σ.P 2 0, σ.P 2 1, (σ.P 2 2) + (nI (3 + nf + nw)), (σ.P 2 3) + 1))) := hD
          refine gx_top (z := nI (f + us)) (by rw [hPf, hPu, nI_add]) ?_
          refine lv_goto (tgt := 71) hx hb dNr_copyOf_58 (by decide) ?_
          refine lv_istore (lv' := [(5, .int (nI (f + us))), (4, .int 1), (3, .ref (a (2 + 2))), (2, .int (nI (3 + nf + nw))), (0, .ref (a 0)), (1, .int (nI k))]) hx hb dNr_copyOf_71 hl (by decide) rfl (fun ls hl => ?_)
          refine lv_aload_n hx hb dNr_copyOf_73 rfl (lv_at hl 4 rfl) ?_
          refine va_get (C := RNr) (T := TNr) (N := 10) (ci := 1) (v := .ref σ.hx) hx hb hg inNr hown hK hP 0 rfl rfl 3 (by decide) (hg _ f_Nr_23) (fun _ h9 => h9) rfl dNr_copyOf_74 ?_
          refine lv_iload_n hx hb dNr_copyOf_77 rfl (lv_at hl 5 rfl) ?_
          refine lv_aload_n hx hb dNr_copyOf_78 rfl (lv_at hl 4 rfl) ?_
          refine va_get (C := RNr) (T := TNr) (N := 10) (ci := 1) (v := .ref σ.hx) hx hb hg inNr hown hK hP 0 rfl rfl 3 (by decide) (hg _ f_Nr_23) (fun _ h9 => h9) rfl dNr_copyOf_79 ?_
          refine lv_iload hx hb dNr_copyOf_82 (lv_at hl 0 rfl) ?_
          refine lv_iload_n hx hb dNr_copyOf_84 rfl (lv_at hl 3 rfl) ?_
          refine va_copyi hx hb (hml.trans hl.1.symm) hown (hg _ l_Nr_179) (hg _ kx_na) (hg _ kx_st) (hg _ z_System) hK hP hD hS 8 8 0 0 rfl rfl rfl rfl rfl (nI_pos (by omega)) (nI_pos (by omega)) (nI_pos (by omega)) (by rw [nI_clamp (by omega), nI_clamp (by omega)]; exact hk) (by rw [nI_clamp (by omega), nI_clamp (by omega)]; exact hb2) (fun _ _ => rfl) (by decide) (by decide) dNr_copyOf_85 (fun H locs hP hD hS => ?_)
          rw [nI_clamp (show k < 2 ^ 31 by omega), nI_clamp (show f + us < 2 ^ 31 by omega), nI_clamp (show 3 + nf + nw < 2 ^ 31 by omega)] at hP hD
          have hP : va_P D gC (nrW cI cP a ((σ.sP 2 (σ.P 2 0, σ.P 2 1, (σ.P 2 2) + (nI (3 + nf + nw)), (σ.P 2 3) + 1)).sX (va_cpy σ.X σ.X k (f + us) (3 + nf + nw)))) H := hP
          have hD : va_D A (nrW cI cP a ((σ.sP 2 (σ.P 2 0, σ.P 2 1, (σ.P 2 2) + (nI (3 + nf + nw)), (σ.P 2 3) + 1)).sX (va_cpy σ.X σ.X k (f + us) (3 + nf + nw)))) := hD
          refine lv_iload hx hb dNr_copyOf_88 (lv_at hl 1 rfl) ?_
          refine lv_if_eq (tgt := 119) hx hb dNr_copyOf_90 (by decide) (fun c_90 => ?_) (fun c_90 => ?_)
          · exact absurd c_90 (by decide)
          · refine lv_aload_n hx hb dNr_copyOf_93 rfl (lv_at hl 4 rfl) ?_
            refine va_get (C := RNr) (T := TNr) (N := 10) (ci := 1) (v := .ref σ.hx) hx hb hg inNr hown hK hP 0 rfl rfl 3 (by decide) (hg _ f_Nr_23) (fun _ h9 => h9) rfl dNr_copyOf_94 ?_
            refine lv_iload hx hb dNr_copyOf_97 (lv_at hl 0 rfl) ?_
            refine lv_iconst (v := 2) hx hb dNr_copyOf_99 (by decide) ?_
            refine lv_iadd hx hb dNr_copyOf_100 ?_
            refine gx_top (z := nI (f + us + 2)) (by rw [show (2 : Int32) = nI 2 from rfl, nI_add]) ?_
            refine lv_dup2_11 hx hb dNr_copyOf_101 rfl rfl ?_
            refine va_iald hx hb hK hP 8 0 rfl rfl (vp_in_nI (show f + us + 2 < σ.N by omega) hN) dNr_copyOf_102 ?_
            refine gx_top (z := (va_cpy σ.X σ.X k (f + us) (3 + nf + nw)) (f + us + 2)) (congrArg _ (nI_clamp (show f + us + 2 < 2 ^ 31 by omega))) ?_
            refine lv_iconst (v := 1) hx hb dNr_copyOf_103 (by decide) ?_
            refine lv_iadd hx hb dNr_copyOf_104 ?_
            refine va_iast hx hb hK hP hD hS 8 0 rfl rfl (vp_in_nI (show f + us + 2 < σ.N by omega) hN) dNr_copyOf_105 (fun H locs hP hD hS => ?_)
            rw [nI_clamp (show f + us + 2 < 2 ^ 31 by omega)] at hP hD
            have hP : va_P D gC (nrW cI cP a (((σ.sP 2 (σ.P 2 0, σ.P 2 1, (σ.P 2 2) + (nI (3 + nf + nw)), (σ.P 2 3) + 1)).sX (va_cpy σ.X σ.X k (f + us) (3 + nf + nw))).sX (upd (va_cpy σ.X σ.X k (f + us) (3 + nf + nw)) (f + us + 2) (((va_cpy σ.X σ.X k (f + us) (3 + nf + nw)) (f + us + 2)) + 1)))) H := hP
            have hD : va_D A (nrW cI cP a (((σ.sP 2 (σ.P 2 0, σ.P 2 1, (σ.P 2 2) + (nI (3 + nf + nw)), (σ.P 2 3) + 1)).sX (va_cpy σ.X σ.X k (f + us) (3 + nf + nw))).sX (upd (va_cpy σ.X σ.X k (f + us) (3 + nf + nw)) (f + us + 2) (((va_cpy σ.X σ.X k (f + us) (3 + nf + nw)) (f + us + 2)) + 1)))) := hD
            refine lv_aload_n hx hb dNr_copyOf_106 rfl (lv_at hl 4 rfl) ?_
            refine lv_dup hx hb dNr_copyOf_107 rfl ?_
            refine va_get (C := RNr) (T := TNr) (N := 10) (ci := 1) (v := .int (σ.F 4)) hx hb hg inNr hown hK hP 0 rfl rfl 8 (by decide) (hg _ f_Nr_64) (fun _ h9 => h9) rfl dNr_copyOf_108 ?_
            refine lv_iconst (v := 1) hx hb dNr_copyOf_111 (by decide) ?_
            refine lv_iadd hx hb dNr_copyOf_112 ?_
            refine va_put (C := RNr) (T := TNr) (N := 10) (ci := 1) (v := .int ((σ.F 4) + 1)) hx hb hg inNr tyNr tyNr_ok nmNr hown hK hP hD hS 0 rfl rfl 8 (by decide) (hg _ f_Nr_64) (fun _ h9 => h9) rfl (tyNr_ok 8 (by decide)) rfl rfl (Nat.le_of_ble_eq_true rfl) dNr_copyOf_113 (fun H locs hP hD hS => ?_)
            have hP : va_P D gC (nrW cI cP a ((((σ.sP 2 (σ.P 2 0, σ.P 2 1, (σ.P 2 2) + (nI (3 + nf + nw)), (σ.P 2 3) + 1)).sX (va_cpy σ.X σ.X k (f + us) (3 + nf + nw))).sX (upd (va_cpy σ.X σ.X k (f + us) (3 + nf + nw)) (f + us + 2) (((va_cpy σ.X σ.X k (f + us) (3 + nf + nw)) (f + us + 2)) + 1))).sF 4 ((σ.F 4) + 1))) H := hP
            have hD : va_D A (nrW cI cP a ((((σ.sP 2 (σ.P 2 0, σ.P 2 1, (σ.P 2 2) + (nI (3 + nf + nw)), (σ.P 2 3) + 1)).sX (va_cpy σ.X σ.X k (f + us) (3 + nf + nw))).sX (upd (va_cpy σ.X σ.X k (f + us) (3 + nf + nw)) (f + us + 2) (((va_cpy σ.X σ.X k (f + us) (3 + nf + nw)) (f + us + 2)) + 1))).sF 4 ((σ.F 4) + 1))) := hD
            refine lv_goto (tgt := 129) hx hb dNr_copyOf_116 (by decide) ?_
            refine lv_aload_n hx hb dNr_copyOf_129 rfl (lv_at hl 4 rfl) ?_
            refine va_get (C := RNr) (T := TNr) (N := 10) (ci := 1) (v := .ref σ.hx) hx hb hg inNr hown hK hP 0 rfl rfl 3 (by decide) (hg _ f_Nr_23) (fun _ h9 => h9) rfl dNr_copyOf_130 ?_
            refine lv_iload_n hx hb dNr_copyOf_133 rfl (lv_at hl 5 rfl) ?_
            refine lv_iload hx hb dNr_copyOf_134 (lv_at hl 0 rfl) ?_
            refine lv_ineg hx hb dNr_copyOf_136 ?_
            refine va_iast hx hb hK hP hD hS 8 0 rfl rfl (vp_in_nI (show k < σ.N by omega) hN) dNr_copyOf_137 (fun H locs hP hD hS => ?_)
            rw [nI_clamp (show k < 2 ^ 31 by omega)] at hP hD
            have hP : va_P D gC (nrW cI cP a (((((σ.sP 2 (σ.P 2 0, σ.P 2 1, (σ.P 2 2) + (nI (3 + nf + nw)), (σ.P 2 3) + 1)).sX (va_cpy σ.X σ.X k (f + us) (3 + nf + nw))).sX (upd (va_cpy σ.X σ.X k (f + us) (3 + nf + nw)) (f + us + 2) (((va_cpy σ.X σ.X k (f + us) (3 + nf + nw)) (f + us + 2)) + 1))).sF 4 ((σ.F 4) + 1)).sX (upd (upd (va_cpy σ.X σ.X k (f + us) (3 + nf + nw)) (f + us + 2) (((va_cpy σ.X σ.X k (f + us) (3 + nf + nw)) (f + us + 2)) + 1)) k (-(nI (f + us)))))) H := hP
            have hD : va_D A (nrW cI cP a (((((σ.sP 2 (σ.P 2 0, σ.P 2 1, (σ.P 2 2) + (nI (3 + nf + nw)), (σ.P 2 3) + 1)).sX (va_cpy σ.X σ.X k (f + us) (3 + nf + nw))).sX (upd (va_cpy σ.X σ.X k (f + us) (3 + nf + nw)) (f + us + 2) (((va_cpy σ.X σ.X k (f + us) (3 + nf + nw)) (f + us + 2)) + 1))).sF 4 ((σ.F 4) + 1)).sX (upd (upd (va_cpy σ.X σ.X k (f + us) (3 + nf + nw)) (f + us + 2) (((va_cpy σ.X σ.X k (f + us) (3 + nf + nw)) (f + us + 2)) + 1)) k (-(nI (f + us)))))) := hD
            refine lv_aload_n hx hb dNr_copyOf_138 rfl (lv_at hl 4 rfl) ?_
            refine lv_iload hx hb dNr_copyOf_139 (lv_at hl 0 rfl) ?_
            refine gx_callv (C := "NurseryRow") (As := [.int (nI (f + us))]) (rest := []) E (qNr_noteCopy l D cI cP a (((((σ.sP 2 (σ.P 2 0, σ.P 2 1, (σ.P 2 2) + (nI (3 + nf + nw)), (σ.P 2 3) + 1)).sX (va_cpy σ.X σ.X k (f + us) (3 + nf + nw))).sX (upd (va_cpy σ.X σ.X k (f + us) (3 + nf + nw)) (f + us + 2) (((va_cpy σ.X σ.X k (f + us) (3 + nf + nw)) (f + us + 2)) + 1))).sF 4 ((σ.F 4) + 1)).sX (upd (upd (va_cpy σ.X σ.X k (f + us) (3 + nf + nw)) (f + us + 2) (((va_cpy σ.X σ.X k (f + us) (3 + nf + nw)) (f + us + 2)) + 1)) k (-(nI (f + us))))) nc (nI (f + us)) hnc hF0) (gx_cwV hts l_Nr_185 k_Nr_noteCopy ki_Nr_noteCopy ke_Nr_noteCopy z_Nr n_Nr_noteCopy ⟨by decide, by decide⟩) hK hP hD hS hA (va_recv hK hP (ci := 1) (q0 := 0) rfl rfl) hl.1 rfl rfl (Nat.le_of_ble_eq_true rfl) ⟨by decide, by decide⟩ dNr_copyOf_141 (fun u_5 H locs hq_6 hP hD hS => ?_)
            subst hq_6
            have hP : va_P D gC (nrW cI cP a (((((((σ.sP 2 (σ.P 2 0, σ.P 2 1, (σ.P 2 2) + (nI (3 + nf + nw)), (σ.P 2 3) + 1)).sX (va_cpy σ.X σ.X k (f + us) (3 + nf + nw))).sX (upd (va_cpy σ.X σ.X k (f + us) (3 + nf + nw)) (f + us + 2) (((va_cpy σ.X σ.X k (f + us) (3 + nf + nw)) (f + us + 2)) + 1))).sF 4 ((σ.F 4) + 1)).sX (upd (upd (va_cpy σ.X σ.X k (f + us) (3 + nf + nw)) (f + us + 2) (((va_cpy σ.X σ.X k (f + us) (3 + nf + nw)) (f + us + 2)) + 1)) k (-(nI (f + us))))).sC (upd σ.C nc (nI (f + us)))).sF 0 (nI (nc + 1)))) H := hP
            have hD : va_D A (nrW cI cP a (((((((σ.sP 2 (σ.P 2 0, σ.P 2 1, (σ.P 2 2) + (nI (3 + nf + nw)), (σ.P 2 3) + 1)).sX (va_cpy σ.X σ.X k (f + us) (3 + nf + nw))).sX (upd (va_cpy σ.X σ.X k (f + us) (3 + nf + nw)) (f + us + 2) (((va_cpy σ.X σ.X k (f + us) (3 + nf + nw)) (f + us + 2)) + 1))).sF 4 ((σ.F 4) + 1)).sX (upd (upd (va_cpy σ.X σ.X k (f + us) (3 + nf + nw)) (f + us + 2) (((va_cpy σ.X σ.X k (f + us) (3 + nf + nw)) (f + us + 2)) + 1)) k (-(nI (f + us))))).sC (upd σ.C nc (nI (f + us)))).sF 0 (nI (nc + 1)))) := hD
            refine lv_iload hx hb dNr_copyOf_144 (lv_at hl 0 rfl) ?_
            exact gx_iret (u := ((((((σ.sP 2 (σ.P 2 0, σ.P 2 1, (σ.P 2 2) + (nI (3 + nf + nw)), (σ.P 2 3) + 1)).sX (va_cpy σ.X σ.X k (f + us) (3 + nf + nw))).sX (upd (va_cpy σ.X σ.X k (f + us) (3 + nf + nw)) (f + us + 2) (((va_cpy σ.X σ.X k (f + us) (3 + nf + nw)) (f + us + 2)) + 1))).sF 4 ((σ.F 4) + 1)).sX (upd (upd (va_cpy σ.X σ.X k (f + us) (3 + nf + nw)) (f + us + 2) (((va_cpy σ.X σ.X k (f + us) (3 + nf + nw)) (f + us + 2)) + 1)) k (-(nI (f + us))))).sC (upd σ.C nc (nI (f + us)))).sF 0 (nI (nc + 1))) E hK hP hD hS ⟨rfl, rfl⟩ dNr_copyOf_146
  · refine lv_aload_n hx hb dNr_copyOf_0 rfl (lv_at hl 0 rfl) ?_
    refine lv_iload_n hx hb dNr_copyOf_1 rfl (lv_at hl 1 rfl) ?_
    refine gx_callp (C := "NurseryRow") (As := [.int (nI k)]) (rest := []) E (qNr_sizeAt l D cI cP a σ k (by omega) hN) (gx_cwV hts l_Nr_150 k_Nr_sizeAt ki_Nr_sizeAt ke_Nr_sizeAt z_Nr n_Nr_sizeAt ⟨by decide, by decide⟩) hK hP hD (va_recv hK hP (ci := 1) (q0 := 0) rfl rfl) hl.1 rfl rfl (Nat.le_of_ble_eq_true rfl) ⟨Nat.zero_le _, Nat.zero_le _⟩ dNr_copyOf_2 ?_
    refine gx_top (z := nI (3 + nf + nw)) (by rw [hX0, hX1, show (3 : Int32) = nI 3 from rfl, nI_add, nI_add]) ?_
    refine lv_istore_n (lv' := [(2, .int (nI (3 + nf + nw))), (0, .ref (a 0)), (1, .int (nI k))]) hx hb dNr_copyOf_5 rfl hl (by decide) rfl (fun ls hl => ?_)
    refine lv_aload_n hx hb dNr_copyOf_6 rfl (lv_at hl 1 rfl) ?_
    refine va_get (C := RNr) (T := TNr) (N := 10) (ci := 1) (v := .ref (a 1)) hx hb hg inNr hown hK hP 0 rfl rfl 0 (by decide) (hg _ f_Nr_11) (fun _ h9 => h9) rfl dNr_copyOf_7 ?_
    refine lv_iconst (v := 2) hx hb dNr_copyOf_10 (by decide) ?_
    refine lv_aload_n hx hb dNr_copyOf_11 rfl (lv_at hl 1 rfl) ?_
    refine va_get (C := RNr) (T := TNr) (N := 10) (ci := 1) (v := .int (σ.F 2)) hx hb hg inNr hown hK hP 0 rfl rfl 6 (by decide) (hg _ f_Nr_58) (fun _ h9 => h9) rfl dNr_copyOf_12 ?_
    refine gx_top (z := 1) hrw ?_
    refine lv_isub hx hb dNr_copyOf_15 ?_
    refine gx_top (z := 1) (by decide) ?_
    refine va_aldq hx hb hK hP 1 1 rfl rfl (by unfold vp_in; decide) dNr_copyOf_16 ?_
    refine gx_stk (st' := [.ref (a (2 + 1))]) rfl ?_
    refine lv_astore_n (lv' := [(3, .ref (a (2 + 1))), (2, .int (nI (3 + nf + nw))), (0, .ref (a 0)), (1, .int (nI k))]) hx hb dNr_copyOf_17 rfl hl (by decide) rfl (fun ls hl => ?_)
    refine lv_aload_n hx hb dNr_copyOf_18 rfl (lv_at hl 2 rfl) ?_
    refine va_get (C := RNr) (T := TNr) (N := 10) (ci := 1) (v := .ref σ.hx) hx hb hg inNr hown hK hP 0 rfl rfl 3 (by decide) (hg _ f_Nr_23) (fun _ h9 => h9) rfl dNr_copyOf_19 ?_
    refine lv_iload_n hx hb dNr_copyOf_22 rfl (lv_at hl 3 rfl) ?_
    refine lv_iconst (v := 2) hx hb dNr_copyOf_23 (by decide) ?_
    refine lv_iadd hx hb dNr_copyOf_24 ?_
    refine gx_top (z := nI (k + 2)) (by rw [show (2 : Int32) = nI 2 from rfl, nI_add]) ?_
    refine va_iald hx hb hK hP 8 0 rfl rfl (vp_in_nI (show k + 2 < σ.N by omega) hN) dNr_copyOf_25 ?_
    refine gx_top (z := σ.X (k + 2)) (congrArg _ (nI_clamp (show k + 2 < 2 ^ 31 by omega))) ?_
    refine lv_aload_n hx hb dNr_copyOf_26 rfl (lv_at hl 2 rfl) ?_
    refine va_get (C := RNr) (T := TNr) (N := 10) (ci := 1) (v := .int (σ.F 1)) hx hb hg inNr hown hK hP 0 rfl rfl 5 (by decide) (hg _ f_Nr_26) (fun _ h9 => h9) rfl dNr_copyOf_27 ?_
    refine lv_icmp_ge (tgt := 45) hx hb dNr_copyOf_30 (by decide) (fun c_30 => ?_) (fun c_30 => ?_)
    · exact absurd c_30 (Int32.not_le.mpr hage)
    · refine lv_aload_n hx hb dNr_copyOf_33 rfl (lv_at hl 0 rfl) ?_
      refine gx_callp (C := "NurseryRow$Part") (As := []) (rest := []) E (nr_liftp (i := 1) (by decide) (qPt_free l D _ (a (2 + 1)) (σ.p 1))) (gx_cwV hts l_Nr_74 k_Pt_free ki_Pt_free ke_Pt_free z_Pt n_Pt_free ⟨by decide, by decide⟩) hK hP hD (va_recv hK hP (ci := 0) (q0 := 3) rfl rfl) hl.1 rfl rfl (Nat.le_of_ble_eq_true rfl) ⟨Nat.zero_le _, Nat.zero_le _⟩ dNr_copyOf_34 ?_
      refine gx_top (z := (σ.P 1 1) - (σ.P 1 2)) rfl ?_
      refine lv_iload_n hx hb dNr_copyOf_37 rfl (lv_at hl 1 rfl) ?_
      refine lv_icmp_lt (tgt := 45) hx hb dNr_copyOf_38 (by decide) (fun c_38 => ?_) (fun c_38 => ?_)
      · exact absurd c_38 hfree
      · refine lv_iconst (v := 1) hx hb dNr_copyOf_41 (by decide) ?_
        refine lv_goto (tgt := 46) hx hb dNr_copyOf_42 (by decide) ?_
        refine lv_istore (lv' := [(4, .int 1), (3, .ref (a (2 + 1))), (2, .int (nI (3 + nf + nw))), (0, .ref (a 0)), (1, .int (nI k))]) hx hb dNr_copyOf_46 hl (by decide) rfl (fun ls hl => ?_)
        refine lv_iload hx hb dNr_copyOf_48 (lv_at hl 0 rfl) ?_
        refine lv_if_eq (tgt := 61) hx hb dNr_copyOf_50 (by decide) (fun c_50 => ?_) (fun c_50 => ?_)
        · exact absurd c_50 (by decide)
        · refine lv_aload_n hx hb dNr_copyOf_53 rfl (lv_at hl 1 rfl) ?_
          refine lv_iload_n hx hb dNr_copyOf_54 rfl (lv_at hl 2 rfl) ?_
          refine gx_calli (C := "NurseryRow$Part") (As := [.int (nI (3 + nf + nw))]) (rest := []) E (nr_lifti (i := 1) (by decide) (qPt_take l D _ (a (2 + 1)) (σ.p 1) (nI (3 + nf + nw)))) (gx_cwV hts l_Nr_77 k_Pt_take ki_Pt_take ke_Pt_take z_Pt n_Pt_take ⟨by decide, by decide⟩) hK hP hD hS hA (va_recv hK hP (ci := 0) (q0 := 3) rfl rfl) hl.1 rfl rfl (Nat.le_of_ble_eq_true rfl) ⟨by decide, by decide⟩ dNr_copyOf_55 (fun r_7 u_8 H locs hq_9 hP hD hS => ?_)
          obtain ⟨v, ⟨hr1, hv⟩, hu⟩ := hq_9
          subst hu; subst hv
          have hr1 : r_7 = (σ.P 1 0) + (σ.P 1 2) := hr1
          subst hr1
          have hP : va_P D gC (nrW cI cP a (σ.sP 1 (σ.P 1 0, σ.P 1 1, (σ.P 1 2) + (nI (3 + nf + nw)), (σ.P 1 3) + 1))) H := hP
          have hD : va_D A (nrW cI cP a (σ.sP 1 (σ.P 1 0, σ.P 1 1, (σ.P 1 2) + (nI (3 + nf + nw)), (σ.P 1 3) + 1))) := hD
          refine gx_top (z := nI (f + us)) (by rw [hPf, hPu, nI_add]) ?_
          refine lv_goto (tgt := 71) hx hb dNr_copyOf_58 (by decide) ?_
          refine lv_istore (lv' := [(5, .int (nI (f + us))), (4, .int 1), (3, .ref (a (2 + 1))), (2, .int (nI (3 + nf + nw))), (0, .ref (a 0)), (1, .int (nI k))]) hx hb dNr_copyOf_71 hl (by decide) rfl (fun ls hl => ?_)
          refine lv_aload_n hx hb dNr_copyOf_73 rfl (lv_at hl 4 rfl) ?_
          refine va_get (C := RNr) (T := TNr) (N := 10) (ci := 1) (v := .ref σ.hx) hx hb hg inNr hown hK hP 0 rfl rfl 3 (by decide) (hg _ f_Nr_23) (fun _ h9 => h9) rfl dNr_copyOf_74 ?_
          refine lv_iload_n hx hb dNr_copyOf_77 rfl (lv_at hl 5 rfl) ?_
          refine lv_aload_n hx hb dNr_copyOf_78 rfl (lv_at hl 4 rfl) ?_
          refine va_get (C := RNr) (T := TNr) (N := 10) (ci := 1) (v := .ref σ.hx) hx hb hg inNr hown hK hP 0 rfl rfl 3 (by decide) (hg _ f_Nr_23) (fun _ h9 => h9) rfl dNr_copyOf_79 ?_
          refine lv_iload hx hb dNr_copyOf_82 (lv_at hl 0 rfl) ?_
          refine lv_iload_n hx hb dNr_copyOf_84 rfl (lv_at hl 3 rfl) ?_
          refine va_copyi hx hb (hml.trans hl.1.symm) hown (hg _ l_Nr_179) (hg _ kx_na) (hg _ kx_st) (hg _ z_System) hK hP hD hS 8 8 0 0 rfl rfl rfl rfl rfl (nI_pos (by omega)) (nI_pos (by omega)) (nI_pos (by omega)) (by rw [nI_clamp (by omega), nI_clamp (by omega)]; exact hk) (by rw [nI_clamp (by omega), nI_clamp (by omega)]; exact hb2) (fun _ _ => rfl) (by decide) (by decide) dNr_copyOf_85 (fun H locs hP hD hS => ?_)
          rw [nI_clamp (show k < 2 ^ 31 by omega), nI_clamp (show f + us < 2 ^ 31 by omega), nI_clamp (show 3 + nf + nw < 2 ^ 31 by omega)] at hP hD
          have hP : va_P D gC (nrW cI cP a ((σ.sP 1 (σ.P 1 0, σ.P 1 1, (σ.P 1 2) + (nI (3 + nf + nw)), (σ.P 1 3) + 1)).sX (va_cpy σ.X σ.X k (f + us) (3 + nf + nw)))) H := hP
          have hD : va_D A (nrW cI cP a ((σ.sP 1 (σ.P 1 0, σ.P 1 1, (σ.P 1 2) + (nI (3 + nf + nw)), (σ.P 1 3) + 1)).sX (va_cpy σ.X σ.X k (f + us) (3 + nf + nw)))) := hD
          refine lv_iload hx hb dNr_copyOf_88 (lv_at hl 1 rfl) ?_
          refine lv_if_eq (tgt := 119) hx hb dNr_copyOf_90 (by decide) (fun c_90 => ?_) (fun c_90 => ?_)
          · exact absurd c_90 (by decide)
          · refine lv_aload_n hx hb dNr_copyOf_93 rfl (lv_at hl 4 rfl) ?_
            refine va_get (C := RNr) (T := TNr) (N := 10) (ci := 1) (v := .ref σ.hx) hx hb hg inNr hown hK hP 0 rfl rfl 3 (by decide) (hg _ f_Nr_23) (fun _ h9 => h9) rfl dNr_copyOf_94 ?_
            refine lv_iload hx hb dNr_copyOf_97 (lv_at hl 0 rfl) ?_
            refine lv_iconst (v := 2) hx hb dNr_copyOf_99 (by decide) ?_
            refine lv_iadd hx hb dNr_copyOf_100 ?_
            refine gx_top (z := nI (f + us + 2)) (by rw [show (2 : Int32) = nI 2 from rfl, nI_add]) ?_
            refine lv_dup2_11 hx hb dNr_copyOf_101 rfl rfl ?_
            refine va_iald hx hb hK hP 8 0 rfl rfl (vp_in_nI (show f + us + 2 < σ.N by omega) hN) dNr_copyOf_102 ?_
            refine gx_top (z := (va_cpy σ.X σ.X k (f + us) (3 + nf + nw)) (f + us + 2)) (congrArg _ (nI_clamp (show f + us + 2 < 2 ^ 31 by omega))) ?_
            refine lv_iconst (v := 1) hx hb dNr_copyOf_103 (by decide) ?_
            refine lv_iadd hx hb dNr_copyOf_104 ?_
            refine va_iast hx hb hK hP hD hS 8 0 rfl rfl (vp_in_nI (show f + us + 2 < σ.N by omega) hN) dNr_copyOf_105 (fun H locs hP hD hS => ?_)
            rw [nI_clamp (show f + us + 2 < 2 ^ 31 by omega)] at hP hD
            have hP : va_P D gC (nrW cI cP a (((σ.sP 1 (σ.P 1 0, σ.P 1 1, (σ.P 1 2) + (nI (3 + nf + nw)), (σ.P 1 3) + 1)).sX (va_cpy σ.X σ.X k (f + us) (3 + nf + nw))).sX (upd (va_cpy σ.X σ.X k (f + us) (3 + nf + nw)) (f + us + 2) (((va_cpy σ.X σ.X k (f + us) (3 + nf + nw)) (f + us + 2)) + 1)))) H := hP
            have hD : va_D A (nrW cI cP a (((σ.sP 1 (σ.P 1 0, σ.P 1 1, (σ.P 1 2) + (nI (3 + nf + nw)), (σ.P 1 3) + 1)).sX (va_cpy σ.X σ.X k (f + us) (3 + nf + nw))).sX (upd (va_cpy σ.X σ.X k (f + us) (3 + nf + nw)) (f + us + 2) (((va_cpy σ.X σ.X k (f + us) (3 + nf + nw)) (f + us + 2)) + 1)))) := hD
            refine lv_aload_n hx hb dNr_copyOf_106 rfl (lv_at hl 4 rfl) ?_
            refine lv_dup hx hb dNr_copyOf_107 rfl ?_
            refine va_get (C := RNr) (T := TNr) (N := 10) (ci := 1) (v := .int (σ.F 4)) hx hb hg inNr hown hK hP 0 rfl rfl 8 (by decide) (hg _ f_Nr_64) (fun _ h9 => h9) rfl dNr_copyOf_108 ?_
            refine lv_iconst (v := 1) hx hb dNr_copyOf_111 (by decide) ?_
            refine lv_iadd hx hb dNr_copyOf_112 ?_
            refine va_put (C := RNr) (T := TNr) (N := 10) (ci := 1) (v := .int ((σ.F 4) + 1)) hx hb hg inNr tyNr tyNr_ok nmNr hown hK hP hD hS 0 rfl rfl 8 (by decide) (hg _ f_Nr_64) (fun _ h9 => h9) rfl (tyNr_ok 8 (by decide)) rfl rfl (Nat.le_of_ble_eq_true rfl) dNr_copyOf_113 (fun H locs hP hD hS => ?_)
            have hP : va_P D gC (nrW cI cP a ((((σ.sP 1 (σ.P 1 0, σ.P 1 1, (σ.P 1 2) + (nI (3 + nf + nw)), (σ.P 1 3) + 1)).sX (va_cpy σ.X σ.X k (f + us) (3 + nf + nw))).sX (upd (va_cpy σ.X σ.X k (f + us) (3 + nf + nw)) (f + us + 2) (((va_cpy σ.X σ.X k (f + us) (3 + nf + nw)) (f + us + 2)) + 1))).sF 4 ((σ.F 4) + 1))) H := hP
            have hD : va_D A (nrW cI cP a ((((σ.sP 1 (σ.P 1 0, σ.P 1 1, (σ.P 1 2) + (nI (3 + nf + nw)), (σ.P 1 3) + 1)).sX (va_cpy σ.X σ.X k (f + us) (3 + nf + nw))).sX (upd (va_cpy σ.X σ.X k (f + us) (3 + nf + nw)) (f + us + 2) (((va_cpy σ.X σ.X k (f + us) (3 + nf + nw)) (f + us + 2)) + 1))).sF 4 ((σ.F 4) + 1))) := hD
            refine lv_goto (tgt := 129) hx hb dNr_copyOf_116 (by decide) ?_
            refine lv_aload_n hx hb dNr_copyOf_129 rfl (lv_at hl 4 rfl) ?_
            refine va_get (C := RNr) (T := TNr) (N := 10) (ci := 1) (v := .ref σ.hx) hx hb hg inNr hown hK hP 0 rfl rfl 3 (by decide) (hg _ f_Nr_23) (fun _ h9 => h9) rfl dNr_copyOf_130 ?_
            refine lv_iload_n hx hb dNr_copyOf_133 rfl (lv_at hl 5 rfl) ?_
            refine lv_iload hx hb dNr_copyOf_134 (lv_at hl 0 rfl) ?_
            refine lv_ineg hx hb dNr_copyOf_136 ?_
            refine va_iast hx hb hK hP hD hS 8 0 rfl rfl (vp_in_nI (show k < σ.N by omega) hN) dNr_copyOf_137 (fun H locs hP hD hS => ?_)
            rw [nI_clamp (show k < 2 ^ 31 by omega)] at hP hD
            have hP : va_P D gC (nrW cI cP a (((((σ.sP 1 (σ.P 1 0, σ.P 1 1, (σ.P 1 2) + (nI (3 + nf + nw)), (σ.P 1 3) + 1)).sX (va_cpy σ.X σ.X k (f + us) (3 + nf + nw))).sX (upd (va_cpy σ.X σ.X k (f + us) (3 + nf + nw)) (f + us + 2) (((va_cpy σ.X σ.X k (f + us) (3 + nf + nw)) (f + us + 2)) + 1))).sF 4 ((σ.F 4) + 1)).sX (upd (upd (va_cpy σ.X σ.X k (f + us) (3 + nf + nw)) (f + us + 2) (((va_cpy σ.X σ.X k (f + us) (3 + nf + nw)) (f + us + 2)) + 1)) k (-(nI (f + us)))))) H := hP
            have hD : va_D A (nrW cI cP a (((((σ.sP 1 (σ.P 1 0, σ.P 1 1, (σ.P 1 2) + (nI (3 + nf + nw)), (σ.P 1 3) + 1)).sX (va_cpy σ.X σ.X k (f + us) (3 + nf + nw))).sX (upd (va_cpy σ.X σ.X k (f + us) (3 + nf + nw)) (f + us + 2) (((va_cpy σ.X σ.X k (f + us) (3 + nf + nw)) (f + us + 2)) + 1))).sF 4 ((σ.F 4) + 1)).sX (upd (upd (va_cpy σ.X σ.X k (f + us) (3 + nf + nw)) (f + us + 2) (((va_cpy σ.X σ.X k (f + us) (3 + nf + nw)) (f + us + 2)) + 1)) k (-(nI (f + us)))))) := hD
            refine lv_aload_n hx hb dNr_copyOf_138 rfl (lv_at hl 4 rfl) ?_
            refine lv_iload hx hb dNr_copyOf_139 (lv_at hl 0 rfl) ?_
            refine gx_callv (C := "NurseryRow") (As := [.int (nI (f + us))]) (rest := []) E (qNr_noteCopy l D cI cP a (((((σ.sP 1 (σ.P 1 0, σ.P 1 1, (σ.P 1 2) + (nI (3 + nf + nw)), (σ.P 1 3) + 1)).sX (va_cpy σ.X σ.X k (f + us) (3 + nf + nw))).sX (upd (va_cpy σ.X σ.X k (f + us) (3 + nf + nw)) (f + us + 2) (((va_cpy σ.X σ.X k (f + us) (3 + nf + nw)) (f + us + 2)) + 1))).sF 4 ((σ.F 4) + 1)).sX (upd (upd (va_cpy σ.X σ.X k (f + us) (3 + nf + nw)) (f + us + 2) (((va_cpy σ.X σ.X k (f + us) (3 + nf + nw)) (f + us + 2)) + 1)) k (-(nI (f + us))))) nc (nI (f + us)) hnc hF0) (gx_cwV hts l_Nr_185 k_Nr_noteCopy ki_Nr_noteCopy ke_Nr_noteCopy z_Nr n_Nr_noteCopy ⟨by decide, by decide⟩) hK hP hD hS hA (va_recv hK hP (ci := 1) (q0 := 0) rfl rfl) hl.1 rfl rfl (Nat.le_of_ble_eq_true rfl) ⟨by decide, by decide⟩ dNr_copyOf_141 (fun u_11 H locs hq_12 hP hD hS => ?_)
            subst hq_12
            have hP : va_P D gC (nrW cI cP a (((((((σ.sP 1 (σ.P 1 0, σ.P 1 1, (σ.P 1 2) + (nI (3 + nf + nw)), (σ.P 1 3) + 1)).sX (va_cpy σ.X σ.X k (f + us) (3 + nf + nw))).sX (upd (va_cpy σ.X σ.X k (f + us) (3 + nf + nw)) (f + us + 2) (((va_cpy σ.X σ.X k (f + us) (3 + nf + nw)) (f + us + 2)) + 1))).sF 4 ((σ.F 4) + 1)).sX (upd (upd (va_cpy σ.X σ.X k (f + us) (3 + nf + nw)) (f + us + 2) (((va_cpy σ.X σ.X k (f + us) (3 + nf + nw)) (f + us + 2)) + 1)) k (-(nI (f + us))))).sC (upd σ.C nc (nI (f + us)))).sF 0 (nI (nc + 1)))) H := hP
            have hD : va_D A (nrW cI cP a (((((((σ.sP 1 (σ.P 1 0, σ.P 1 1, (σ.P 1 2) + (nI (3 + nf + nw)), (σ.P 1 3) + 1)).sX (va_cpy σ.X σ.X k (f + us) (3 + nf + nw))).sX (upd (va_cpy σ.X σ.X k (f + us) (3 + nf + nw)) (f + us + 2) (((va_cpy σ.X σ.X k (f + us) (3 + nf + nw)) (f + us + 2)) + 1))).sF 4 ((σ.F 4) + 1)).sX (upd (upd (va_cpy σ.X σ.X k (f + us) (3 + nf + nw)) (f + us + 2) (((va_cpy σ.X σ.X k (f + us) (3 + nf + nw)) (f + us + 2)) + 1)) k (-(nI (f + us))))).sC (upd σ.C nc (nI (f + us)))).sF 0 (nI (nc + 1)))) := hD
            refine lv_iload hx hb dNr_copyOf_144 (lv_at hl 0 rfl) ?_
            exact gx_iret (u := ((((((σ.sP 1 (σ.P 1 0, σ.P 1 1, (σ.P 1 2) + (nI (3 + nf + nw)), (σ.P 1 3) + 1)).sX (va_cpy σ.X σ.X k (f + us) (3 + nf + nw))).sX (upd (va_cpy σ.X σ.X k (f + us) (3 + nf + nw)) (f + us + 2) (((va_cpy σ.X σ.X k (f + us) (3 + nf + nw)) (f + us + 2)) + 1))).sF 4 ((σ.F 4) + 1)).sX (upd (upd (va_cpy σ.X σ.X k (f + us) (3 + nf + nw)) (f + us + 2) (((va_cpy σ.X σ.X k (f + us) (3 + nf + nw)) (f + us + 2)) + 1)) k (-(nI (f + us))))).sC (upd σ.C nc (nI (f + us)))).sF 0 (nI (nc + 1))) E hK hP hD hS ⟨rfl, rfl⟩ dNr_copyOf_146
set_option maxHeartbeats 4000000 in
set_option maxRecDepth 100000 in
/-- a copy to OLD -/
theorem qNr_copyOfO (l : Launch) (D : va_G) (cI cP : ClassId) (a : Nat → Nat) (σ : nSt) (j k nf nw f us nc : Nat) (hX0 : σ.X k = nI nf) (hX1 : σ.X (k + 1) = nI nw) (hnf : nf ≤ 200) (hnw : nw ≤ 200) (hk : k + (3 + nf + nw) ≤ σ.N) (hN : σ.N < 2 ^ 31) (hPf : σ.P 3 0 = nI f) (hPu : σ.P 3 2 = nI us) (hb2 : f + us + (3 + nf + nw) ≤ σ.N) (hnc : nc < 512) (hF0 : σ.F 0 = nI nc) (hrw : (σ.F 2 = 0 ∧ j = 2) ∨ (σ.F 2 = 1 ∧ j = 1)) (hst : ¬ σ.X (k + 2) < σ.F 1 ∨ σ.P j 1 - σ.P j 2 < nI (3 + nf + nw)) : gx_Mi l yNr_copyOf (Cond.code yNr_copyOf cNr_copyOf 6 (some .int) :: gW) (gR 3) D gC (nrT cI cP) (nrW cI cP a) σ [.ref (a 0), .int (nI k)] (fun r u => r = nI (f + us) ∧ u = cpO σ k (3 + nf + nw) (f + us) nc) := by
  refine gx_Mi.of (cc := cNr_copyOf) (maxL := 6) (ret := (some .int)) (by decide) rfl (Nat.le_of_ble_eq_true rfl) ?_
  intro p e s m args below meth c ls A E hA hK hP hD hS hl
  obtain ⟨hx, hb, hr, hml, hts, hown, hlocks, hnm⟩ := id E
  have hg : ∀ w ∈ gW, w.before args s = true := fun w h => hts w (List.mem_cons_of_mem _ h)
  have hown : s.vm.findClass "NurseryRow" = some m.cls := hown
  have hl : lv_has ls 6 [(0, .ref (a 0)), (1, .int (nI k))] := hl
  rcases hrw with ⟨hrw, rfl⟩ | ⟨hrw, rfl⟩
  · refine lv_aload_n hx hb dNr_copyOf_0 rfl (lv_at hl 0 rfl) ?_
    refine lv_iload_n hx hb dNr_copyOf_1 rfl (lv_at hl 1 rfl) ?_
    refine gx_callp (C := "NurseryRow") (As := [.int (nI k)]) (rest := []) E (qNr_sizeAt l D cI cP a σ k (by omega) hN) (gx_cwV hts l_Nr_150 k_Nr_sizeAt ki_Nr_sizeAt ke_Nr_sizeAt z_Nr n_Nr_sizeAt ⟨by decide, by decide⟩) hK hP hD (va_recv hK hP (ci := 1) (q0 := 0) rfl rfl) hl.1 rfl rfl (Nat.le_of_ble_eq_true rfl) ⟨Nat.zero_le _, Nat.zero_le _⟩ dNr_copyOf_2 ?_
    refine gx_top (z := nI (3 + nf + nw)) (by rw [hX0, hX1, show (3 : Int32) = nI 3 from rfl, nI_add, nI_add]) ?_
    refine lv_istore_n (lv' := [(2, .int (nI (3 + nf + nw))), (0, .ref (a 0)), (1, .int (nI k))]) hx hb dNr_copyOf_5 rfl hl (by decide) rfl (fun ls hl => ?_)
    refine lv_aload_n hx hb dNr_copyOf_6 rfl (lv_at hl 1 rfl) ?_
    refine va_get (C := RNr) (T := TNr) (N := 10) (ci := 1) (v := .ref (a 1)) hx hb hg inNr hown hK hP 0 rfl rfl 0 (by decide) (hg _ f_Nr_11) (fun _ h9 => h9) rfl dNr_copyOf_7 ?_
    refine lv_iconst (v := 2) hx hb dNr_copyOf_10 (by decide) ?_
    refine lv_aload_n hx hb dNr_copyOf_11 rfl (lv_at hl 1 rfl) ?_
    refine va_get (C := RNr) (T := TNr) (N := 10) (ci := 1) (v := .int (σ.F 2)) hx hb hg inNr hown hK hP 0 rfl rfl 6 (by decide) (hg _ f_Nr_58) (fun _ h9 => h9) rfl dNr_copyOf_12 ?_
    refine gx_top (z := 0) hrw ?_
    refine lv_isub hx hb dNr_copyOf_15 ?_
    refine gx_top (z := 2) (by decide) ?_
    refine va_aldq hx hb hK hP 1 1 rfl rfl (by unfold vp_in; decide) dNr_copyOf_16 ?_
    refine gx_stk (st' := [.ref (a (2 + 2))]) rfl ?_
    refine lv_astore_n (lv' := [(3, .ref (a (2 + 2))), (2, .int (nI (3 + nf + nw))), (0, .ref (a 0)), (1, .int (nI k))]) hx hb dNr_copyOf_17 rfl hl (by decide) rfl (fun ls hl => ?_)
    refine lv_aload_n hx hb dNr_copyOf_18 rfl (lv_at hl 2 rfl) ?_
    refine va_get (C := RNr) (T := TNr) (N := 10) (ci := 1) (v := .ref σ.hx) hx hb hg inNr hown hK hP 0 rfl rfl 3 (by decide) (hg _ f_Nr_23) (fun _ h9 => h9) rfl dNr_copyOf_19 ?_
    refine lv_iload_n hx hb dNr_copyOf_22 rfl (lv_at hl 3 rfl) ?_
    refine lv_iconst (v := 2) hx hb dNr_copyOf_23 (by decide) ?_
    refine lv_iadd hx hb dNr_copyOf_24 ?_
    refine gx_top (z := nI (k + 2)) (by rw [show (2 : Int32) = nI 2 from rfl, nI_add]) ?_
    refine va_iald hx hb hK hP 8 0 rfl rfl (vp_in_nI (show k + 2 < σ.N by omega) hN) dNr_copyOf_25 ?_
    refine gx_top (z := σ.X (k + 2)) (congrArg _ (nI_clamp (show k + 2 < 2 ^ 31 by omega))) ?_
    refine lv_aload_n hx hb dNr_copyOf_26 rfl (lv_at hl 2 rfl) ?_
    refine va_get (C := RNr) (T := TNr) (N := 10) (ci := 1) (v := .int (σ.F 1)) hx hb hg inNr hown hK hP 0 rfl rfl 5 (by decide) (hg _ f_Nr_26) (fun _ h9 => h9) rfl dNr_copyOf_27 ?_
    refine lv_icmp_ge (tgt := 45) hx hb dNr_copyOf_30 (by decide) (fun c_30 => ?_) (fun c_30 => ?_)
    · refine lv_iconst (v := 0) hx hb dNr_copyOf_45 (by decide) ?_
      refine lv_istore (lv' := [(4, .int 0), (3, .ref (a (2 + 2))), (2, .int (nI (3 + nf + nw))), (0, .ref (a 0)), (1, .int (nI k))]) hx hb dNr_copyOf_46 hl (by decide) rfl (fun ls hl => ?_)
      refine lv_iload hx hb dNr_copyOf_48 (lv_at hl 0 rfl) ?_
      refine lv_if_eq (tgt := 61) hx hb dNr_copyOf_50 (by decide) (fun c_50 => ?_) (fun c_50 => ?_)
      · refine lv_aload_n hx hb dNr_copyOf_61 rfl (lv_at hl 3 rfl) ?_
        refine va_get (C := RNr) (T := TNr) (N := 10) (ci := 1) (v := .ref (a 1)) hx hb hg inNr hown hK hP 0 rfl rfl 0 (by decide) (hg _ f_Nr_11) (fun _ h9 => h9) rfl dNr_copyOf_62 ?_
        refine lv_iconst (v := 3) hx hb dNr_copyOf_65 (by decide) ?_
        refine va_aldq hx hb hK hP 1 1 rfl rfl (by unfold vp_in; decide) dNr_copyOf_66 ?_
        refine gx_stk (st' := [.ref (a (2 + 3))]) rfl ?_
        refine lv_iload_n hx hb dNr_copyOf_67 rfl (lv_at hl 2 rfl) ?_
        refine gx_calli (C := "NurseryRow$Part") (As := [.int (nI (3 + nf + nw))]) (rest := []) E (nr_lifti (i := 3) (by decide) (qPt_take l D _ (a (2 + 3)) (σ.p 3) (nI (3 + nf + nw)))) (gx_cwV hts l_Nr_77 k_Pt_take ki_Pt_take ke_Pt_take z_Pt n_Pt_take ⟨by decide, by decide⟩) hK hP hD hS hA (va_recv hK hP (ci := 0) (q0 := 5) rfl rfl) hl.1 rfl rfl (Nat.le_of_ble_eq_true rfl) ⟨by decide, by decide⟩ dNr_copyOf_68 (fun r_1 u_2 H locs hq_3 hP hD hS => ?_)
        obtain ⟨v, ⟨hr1, hv⟩, hu⟩ := hq_3
        subst hu; subst hv
        have hr1 : r_1 = (σ.P 3 0) + (σ.P 3 2) := hr1
        subst hr1
        have hP : va_P D gC (nrW cI cP a (σ.sP 3 (σ.P 3 0, σ.P 3 1, (σ.P 3 2) + (nI (3 + nf + nw)), (σ.P 3 3) + 1))) H := hP
        have hD : va_D A (nrW cI cP a (σ.sP 3 (σ.P 3 0, σ.P 3 1, (σ.P 3 2) + (nI (3 + nf + nw)), (σ.P 3 3) + 1))) := hD
        refine gx_top (z := nI (f + us)) (by rw [hPf, hPu, nI_add]) ?_
        refine lv_istore (lv' := [(5, .int (nI (f + us))), (4, .int 0), (3, .ref (a (2 + 2))), (2, .int (nI (3 + nf + nw))), (0, .ref (a 0)), (1, .int (nI k))]) hx hb dNr_copyOf_71 hl (by decide) rfl (fun ls hl => ?_)
        refine lv_aload_n hx hb dNr_copyOf_73 rfl (lv_at hl 4 rfl) ?_
        refine va_get (C := RNr) (T := TNr) (N := 10) (ci := 1) (v := .ref σ.hx) hx hb hg inNr hown hK hP 0 rfl rfl 3 (by decide) (hg _ f_Nr_23) (fun _ h9 => h9) rfl dNr_copyOf_74 ?_
        refine lv_iload_n hx hb dNr_copyOf_77 rfl (lv_at hl 5 rfl) ?_
        refine lv_aload_n hx hb dNr_copyOf_78 rfl (lv_at hl 4 rfl) ?_
        refine va_get (C := RNr) (T := TNr) (N := 10) (ci := 1) (v := .ref σ.hx) hx hb hg inNr hown hK hP 0 rfl rfl 3 (by decide) (hg _ f_Nr_23) (fun _ h9 => h9) rfl dNr_copyOf_79 ?_
        refine lv_iload hx hb dNr_copyOf_82 (lv_at hl 0 rfl) ?_
        refine lv_iload_n hx hb dNr_copyOf_84 rfl (lv_at hl 3 rfl) ?_
        refine va_copyi hx hb (hml.trans hl.1.symm) hown (hg _ l_Nr_179) (hg _ kx_na) (hg _ kx_st) (hg _ z_System) hK hP hD hS 8 8 0 0 rfl rfl rfl rfl rfl (nI_pos (by omega)) (nI_pos (by omega)) (nI_pos (by omega)) (by rw [nI_clamp (by omega), nI_clamp (by omega)]; exact hk) (by rw [nI_clamp (by omega), nI_clamp (by omega)]; exact hb2) (fun _ _ => rfl) (by decide) (by decide) dNr_copyOf_85 (fun H locs hP hD hS => ?_)
        rw [nI_clamp (show k < 2 ^ 31 by omega), nI_clamp (show f + us < 2 ^ 31 by omega), nI_clamp (show 3 + nf + nw < 2 ^ 31 by omega)] at hP hD
        have hP : va_P D gC (nrW cI cP a ((σ.sP 3 (σ.P 3 0, σ.P 3 1, (σ.P 3 2) + (nI (3 + nf + nw)), (σ.P 3 3) + 1)).sX (va_cpy σ.X σ.X k (f + us) (3 + nf + nw)))) H := hP
        have hD : va_D A (nrW cI cP a ((σ.sP 3 (σ.P 3 0, σ.P 3 1, (σ.P 3 2) + (nI (3 + nf + nw)), (σ.P 3 3) + 1)).sX (va_cpy σ.X σ.X k (f + us) (3 + nf + nw)))) := hD
        refine lv_iload hx hb dNr_copyOf_88 (lv_at hl 1 rfl) ?_
        refine lv_if_eq (tgt := 119) hx hb dNr_copyOf_90 (by decide) (fun c_90 => ?_) (fun c_90 => ?_)
        · refine lv_aload_n hx hb dNr_copyOf_119 rfl (lv_at hl 4 rfl) ?_
          refine lv_dup hx hb dNr_copyOf_120 rfl ?_
          refine va_get (C := RNr) (T := TNr) (N := 10) (ci := 1) (v := .int (σ.F 5)) hx hb hg inNr hown hK hP 0 rfl rfl 9 (by decide) (hg _ f_Nr_67) (fun _ h9 => h9) rfl dNr_copyOf_121 ?_
          refine lv_iconst (v := 1) hx hb dNr_copyOf_124 (by decide) ?_
          refine lv_iadd hx hb dNr_copyOf_125 ?_
          refine va_put (C := RNr) (T := TNr) (N := 10) (ci := 1) (v := .int ((σ.F 5) + 1)) hx hb hg inNr tyNr tyNr_ok nmNr hown hK hP hD hS 0 rfl rfl 9 (by decide) (hg _ f_Nr_67) (fun _ h9 => h9) rfl (tyNr_ok 9 (by decide)) rfl rfl (Nat.le_of_ble_eq_true rfl) dNr_copyOf_126 (fun H locs hP hD hS => ?_)
          have hP : va_P D gC (nrW cI cP a (((σ.sP 3 (σ.P 3 0, σ.P 3 1, (σ.P 3 2) + (nI (3 + nf + nw)), (σ.P 3 3) + 1)).sX (va_cpy σ.X σ.X k (f + us) (3 + nf + nw))).sF 5 ((σ.F 5) + 1))) H := hP
          have hD : va_D A (nrW cI cP a (((σ.sP 3 (σ.P 3 0, σ.P 3 1, (σ.P 3 2) + (nI (3 + nf + nw)), (σ.P 3 3) + 1)).sX (va_cpy σ.X σ.X k (f + us) (3 + nf + nw))).sF 5 ((σ.F 5) + 1))) := hD
          refine lv_aload_n hx hb dNr_copyOf_129 rfl (lv_at hl 4 rfl) ?_
          refine va_get (C := RNr) (T := TNr) (N := 10) (ci := 1) (v := .ref σ.hx) hx hb hg inNr hown hK hP 0 rfl rfl 3 (by decide) (hg _ f_Nr_23) (fun _ h9 => h9) rfl dNr_copyOf_130 ?_
          refine lv_iload_n hx hb dNr_copyOf_133 rfl (lv_at hl 5 rfl) ?_
          refine lv_iload hx hb dNr_copyOf_134 (lv_at hl 0 rfl) ?_
          refine lv_ineg hx hb dNr_copyOf_136 ?_
          refine va_iast hx hb hK hP hD hS 8 0 rfl rfl (vp_in_nI (show k < σ.N by omega) hN) dNr_copyOf_137 (fun H locs hP hD hS => ?_)
          rw [nI_clamp (show k < 2 ^ 31 by omega)] at hP hD
          have hP : va_P D gC (nrW cI cP a ((((σ.sP 3 (σ.P 3 0, σ.P 3 1, (σ.P 3 2) + (nI (3 + nf + nw)), (σ.P 3 3) + 1)).sX (va_cpy σ.X σ.X k (f + us) (3 + nf + nw))).sF 5 ((σ.F 5) + 1)).sX (upd (va_cpy σ.X σ.X k (f + us) (3 + nf + nw)) k (-(nI (f + us)))))) H := hP
          have hD : va_D A (nrW cI cP a ((((σ.sP 3 (σ.P 3 0, σ.P 3 1, (σ.P 3 2) + (nI (3 + nf + nw)), (σ.P 3 3) + 1)).sX (va_cpy σ.X σ.X k (f + us) (3 + nf + nw))).sF 5 ((σ.F 5) + 1)).sX (upd (va_cpy σ.X σ.X k (f + us) (3 + nf + nw)) k (-(nI (f + us)))))) := hD
          refine lv_aload_n hx hb dNr_copyOf_138 rfl (lv_at hl 4 rfl) ?_
          refine lv_iload hx hb dNr_copyOf_139 (lv_at hl 0 rfl) ?_
          refine gx_callv (C := "NurseryRow") (As := [.int (nI (f + us))]) (rest := []) E (qNr_noteCopy l D cI cP a ((((σ.sP 3 (σ.P 3 0, σ.P 3 1, (σ.P 3 2) + (nI (3 + nf + nw)), (σ.P 3 3) + 1)).sX (va_cpy σ.X σ.X k (f + us) (3 + nf + nw))).sF 5 ((σ.F 5) + 1)).sX (upd (va_cpy σ.X σ.X k (f + us) (3 + nf + nw)) k (-(nI (f + us))))) nc (nI (f + us)) hnc hF0) (gx_cwV hts l_Nr_185 k_Nr_noteCopy ki_Nr_noteCopy ke_Nr_noteCopy z_Nr n_Nr_noteCopy ⟨by decide, by decide⟩) hK hP hD hS hA (va_recv hK hP (ci := 1) (q0 := 0) rfl rfl) hl.1 rfl rfl (Nat.le_of_ble_eq_true rfl) ⟨by decide, by decide⟩ dNr_copyOf_141 (fun u_5 H locs hq_6 hP hD hS => ?_)
          subst hq_6
          have hP : va_P D gC (nrW cI cP a ((((((σ.sP 3 (σ.P 3 0, σ.P 3 1, (σ.P 3 2) + (nI (3 + nf + nw)), (σ.P 3 3) + 1)).sX (va_cpy σ.X σ.X k (f + us) (3 + nf + nw))).sF 5 ((σ.F 5) + 1)).sX (upd (va_cpy σ.X σ.X k (f + us) (3 + nf + nw)) k (-(nI (f + us))))).sC (upd σ.C nc (nI (f + us)))).sF 0 (nI (nc + 1)))) H := hP
          have hD : va_D A (nrW cI cP a ((((((σ.sP 3 (σ.P 3 0, σ.P 3 1, (σ.P 3 2) + (nI (3 + nf + nw)), (σ.P 3 3) + 1)).sX (va_cpy σ.X σ.X k (f + us) (3 + nf + nw))).sF 5 ((σ.F 5) + 1)).sX (upd (va_cpy σ.X σ.X k (f + us) (3 + nf + nw)) k (-(nI (f + us))))).sC (upd σ.C nc (nI (f + us)))).sF 0 (nI (nc + 1)))) := hD
          refine lv_iload hx hb dNr_copyOf_144 (lv_at hl 0 rfl) ?_
          exact gx_iret (u := (((((σ.sP 3 (σ.P 3 0, σ.P 3 1, (σ.P 3 2) + (nI (3 + nf + nw)), (σ.P 3 3) + 1)).sX (va_cpy σ.X σ.X k (f + us) (3 + nf + nw))).sF 5 ((σ.F 5) + 1)).sX (upd (va_cpy σ.X σ.X k (f + us) (3 + nf + nw)) k (-(nI (f + us))))).sC (upd σ.C nc (nI (f + us)))).sF 0 (nI (nc + 1))) E hK hP hD hS ⟨rfl, rfl⟩ dNr_copyOf_146
        · exact absurd c_90 (by decide)
      · exact absurd c_50 (by decide)
    · refine lv_aload_n hx hb dNr_copyOf_33 rfl (lv_at hl 0 rfl) ?_
      refine gx_callp (C := "NurseryRow$Part") (As := []) (rest := []) E (nr_liftp (i := 2) (by decide) (qPt_free l D _ (a (2 + 2)) (σ.p 2))) (gx_cwV hts l_Nr_74 k_Pt_free ki_Pt_free ke_Pt_free z_Pt n_Pt_free ⟨by decide, by decide⟩) hK hP hD (va_recv hK hP (ci := 0) (q0 := 4) rfl rfl) hl.1 rfl rfl (Nat.le_of_ble_eq_true rfl) ⟨Nat.zero_le _, Nat.zero_le _⟩ dNr_copyOf_34 ?_
      refine gx_top (z := (σ.P 2 1) - (σ.P 2 2)) rfl ?_
      refine lv_iload_n hx hb dNr_copyOf_37 rfl (lv_at hl 1 rfl) ?_
      refine lv_icmp_lt (tgt := 45) hx hb dNr_copyOf_38 (by decide) (fun c_38 => ?_) (fun c_38 => ?_)
      · refine lv_iconst (v := 0) hx hb dNr_copyOf_45 (by decide) ?_
        refine lv_istore (lv' := [(4, .int 0), (3, .ref (a (2 + 2))), (2, .int (nI (3 + nf + nw))), (0, .ref (a 0)), (1, .int (nI k))]) hx hb dNr_copyOf_46 hl (by decide) rfl (fun ls hl => ?_)
        refine lv_iload hx hb dNr_copyOf_48 (lv_at hl 0 rfl) ?_
        refine lv_if_eq (tgt := 61) hx hb dNr_copyOf_50 (by decide) (fun c_50 => ?_) (fun c_50 => ?_)
        · refine lv_aload_n hx hb dNr_copyOf_61 rfl (lv_at hl 3 rfl) ?_
          refine va_get (C := RNr) (T := TNr) (N := 10) (ci := 1) (v := .ref (a 1)) hx hb hg inNr hown hK hP 0 rfl rfl 0 (by decide) (hg _ f_Nr_11) (fun _ h9 => h9) rfl dNr_copyOf_62 ?_
          refine lv_iconst (v := 3) hx hb dNr_copyOf_65 (by decide) ?_
          refine va_aldq hx hb hK hP 1 1 rfl rfl (by unfold vp_in; decide) dNr_copyOf_66 ?_
          refine gx_stk (st' := [.ref (a (2 + 3))]) rfl ?_
          refine lv_iload_n hx hb dNr_copyOf_67 rfl (lv_at hl 2 rfl) ?_
          refine gx_calli (C := "NurseryRow$Part") (As := [.int (nI (3 + nf + nw))]) (rest := []) E (nr_lifti (i := 3) (by decide) (qPt_take l D _ (a (2 + 3)) (σ.p 3) (nI (3 + nf + nw)))) (gx_cwV hts l_Nr_77 k_Pt_take ki_Pt_take ke_Pt_take z_Pt n_Pt_take ⟨by decide, by decide⟩) hK hP hD hS hA (va_recv hK hP (ci := 0) (q0 := 5) rfl rfl) hl.1 rfl rfl (Nat.le_of_ble_eq_true rfl) ⟨by decide, by decide⟩ dNr_copyOf_68 (fun r_7 u_8 H locs hq_9 hP hD hS => ?_)
          obtain ⟨v, ⟨hr1, hv⟩, hu⟩ := hq_9
          subst hu; subst hv
          have hr1 : r_7 = (σ.P 3 0) + (σ.P 3 2) := hr1
          subst hr1
          have hP : va_P D gC (nrW cI cP a (σ.sP 3 (σ.P 3 0, σ.P 3 1, (σ.P 3 2) + (nI (3 + nf + nw)), (σ.P 3 3) + 1))) H := hP
          have hD : va_D A (nrW cI cP a (σ.sP 3 (σ.P 3 0, σ.P 3 1, (σ.P 3 2) + (nI (3 + nf + nw)), (σ.P 3 3) + 1))) := hD
          refine gx_top (z := nI (f + us)) (by rw [hPf, hPu, nI_add]) ?_
          refine lv_istore (lv' := [(5, .int (nI (f + us))), (4, .int 0), (3, .ref (a (2 + 2))), (2, .int (nI (3 + nf + nw))), (0, .ref (a 0)), (1, .int (nI k))]) hx hb dNr_copyOf_71 hl (by decide) rfl (fun ls hl => ?_)
          refine lv_aload_n hx hb dNr_copyOf_73 rfl (lv_at hl 4 rfl) ?_
          refine va_get (C := RNr) (T := TNr) (N := 10) (ci := 1) (v := .ref σ.hx) hx hb hg inNr hown hK hP 0 rfl rfl 3 (by decide) (hg _ f_Nr_23) (fun _ h9 => h9) rfl dNr_copyOf_74 ?_
          refine lv_iload_n hx hb dNr_copyOf_77 rfl (lv_at hl 5 rfl) ?_
          refine lv_aload_n hx hb dNr_copyOf_78 rfl (lv_at hl 4 rfl) ?_
          refine va_get (C := RNr) (T := TNr) (N := 10) (ci := 1) (v := .ref σ.hx) hx hb hg inNr hown hK hP 0 rfl rfl 3 (by decide) (hg _ f_Nr_23) (fun _ h9 => h9) rfl dNr_copyOf_79 ?_
          refine lv_iload hx hb dNr_copyOf_82 (lv_at hl 0 rfl) ?_
          refine lv_iload_n hx hb dNr_copyOf_84 rfl (lv_at hl 3 rfl) ?_
          refine va_copyi hx hb (hml.trans hl.1.symm) hown (hg _ l_Nr_179) (hg _ kx_na) (hg _ kx_st) (hg _ z_System) hK hP hD hS 8 8 0 0 rfl rfl rfl rfl rfl (nI_pos (by omega)) (nI_pos (by omega)) (nI_pos (by omega)) (by rw [nI_clamp (by omega), nI_clamp (by omega)]; exact hk) (by rw [nI_clamp (by omega), nI_clamp (by omega)]; exact hb2) (fun _ _ => rfl) (by decide) (by decide) dNr_copyOf_85 (fun H locs hP hD hS => ?_)
          rw [nI_clamp (show k < 2 ^ 31 by omega), nI_clamp (show f + us < 2 ^ 31 by omega), nI_clamp (show 3 + nf + nw < 2 ^ 31 by omega)] at hP hD
          have hP : va_P D gC (nrW cI cP a ((σ.sP 3 (σ.P 3 0, σ.P 3 1, (σ.P 3 2) + (nI (3 + nf + nw)), (σ.P 3 3) + 1)).sX (va_cpy σ.X σ.X k (f + us) (3 + nf + nw)))) H := hP
          have hD : va_D A (nrW cI cP a ((σ.sP 3 (σ.P 3 0, σ.P 3 1, (σ.P 3 2) + (nI (3 + nf + nw)), (σ.P 3 3) + 1)).sX (va_cpy σ.X σ.X k (f + us) (3 + nf + nw)))) := hD
          refine lv_iload hx hb dNr_copyOf_88 (lv_at hl 1 rfl) ?_
          refine lv_if_eq (tgt := 119) hx hb dNr_copyOf_90 (by decide) (fun c_90 => ?_) (fun c_90 => ?_)
          · refine lv_aload_n hx hb dNr_copyOf_119 rfl (lv_at hl 4 rfl) ?_
            refine lv_dup hx hb dNr_copyOf_120 rfl ?_
            refine va_get (C := RNr) (T := TNr) (N := 10) (ci := 1) (v := .int (σ.F 5)) hx hb hg inNr hown hK hP 0 rfl rfl 9 (by decide) (hg _ f_Nr_67) (fun _ h9 => h9) rfl dNr_copyOf_121 ?_
            refine lv_iconst (v := 1) hx hb dNr_copyOf_124 (by decide) ?_
            refine lv_iadd hx hb dNr_copyOf_125 ?_
            refine va_put (C := RNr) (T := TNr) (N := 10) (ci := 1) (v := .int ((σ.F 5) + 1)) hx hb hg inNr tyNr tyNr_ok nmNr hown hK hP hD hS 0 rfl rfl 9 (by decide) (hg _ f_Nr_67) (fun _ h9 => h9) rfl (tyNr_ok 9 (by decide)) rfl rfl (Nat.le_of_ble_eq_true rfl) dNr_copyOf_126 (fun H locs hP hD hS => ?_)
            have hP : va_P D gC (nrW cI cP a (((σ.sP 3 (σ.P 3 0, σ.P 3 1, (σ.P 3 2) + (nI (3 + nf + nw)), (σ.P 3 3) + 1)).sX (va_cpy σ.X σ.X k (f + us) (3 + nf + nw))).sF 5 ((σ.F 5) + 1))) H := hP
            have hD : va_D A (nrW cI cP a (((σ.sP 3 (σ.P 3 0, σ.P 3 1, (σ.P 3 2) + (nI (3 + nf + nw)), (σ.P 3 3) + 1)).sX (va_cpy σ.X σ.X k (f + us) (3 + nf + nw))).sF 5 ((σ.F 5) + 1))) := hD
            refine lv_aload_n hx hb dNr_copyOf_129 rfl (lv_at hl 4 rfl) ?_
            refine va_get (C := RNr) (T := TNr) (N := 10) (ci := 1) (v := .ref σ.hx) hx hb hg inNr hown hK hP 0 rfl rfl 3 (by decide) (hg _ f_Nr_23) (fun _ h9 => h9) rfl dNr_copyOf_130 ?_
            refine lv_iload_n hx hb dNr_copyOf_133 rfl (lv_at hl 5 rfl) ?_
            refine lv_iload hx hb dNr_copyOf_134 (lv_at hl 0 rfl) ?_
            refine lv_ineg hx hb dNr_copyOf_136 ?_
            refine va_iast hx hb hK hP hD hS 8 0 rfl rfl (vp_in_nI (show k < σ.N by omega) hN) dNr_copyOf_137 (fun H locs hP hD hS => ?_)
            rw [nI_clamp (show k < 2 ^ 31 by omega)] at hP hD
            have hP : va_P D gC (nrW cI cP a ((((σ.sP 3 (σ.P 3 0, σ.P 3 1, (σ.P 3 2) + (nI (3 + nf + nw)), (σ.P 3 3) + 1)).sX (va_cpy σ.X σ.X k (f + us) (3 + nf + nw))).sF 5 ((σ.F 5) + 1)).sX (upd (va_cpy σ.X σ.X k (f + us) (3 + nf + nw)) k (-(nI (f + us)))))) H := hP
            have hD : va_D A (nrW cI cP a ((((σ.sP 3 (σ.P 3 0, σ.P 3 1, (σ.P 3 2) + (nI (3 + nf + nw)), (σ.P 3 3) + 1)).sX (va_cpy σ.X σ.X k (f + us) (3 + nf + nw))).sF 5 ((σ.F 5) + 1)).sX (upd (va_cpy σ.X σ.X k (f + us) (3 + nf + nw)) k (-(nI (f + us)))))) := hD
            refine lv_aload_n hx hb dNr_copyOf_138 rfl (lv_at hl 4 rfl) ?_
            refine lv_iload hx hb dNr_copyOf_139 (lv_at hl 0 rfl) ?_
            refine gx_callv (C := "NurseryRow") (As := [.int (nI (f + us))]) (rest := []) E (qNr_noteCopy l D cI cP a ((((σ.sP 3 (σ.P 3 0, σ.P 3 1, (σ.P 3 2) + (nI (3 + nf + nw)), (σ.P 3 3) + 1)).sX (va_cpy σ.X σ.X k (f + us) (3 + nf + nw))).sF 5 ((σ.F 5) + 1)).sX (upd (va_cpy σ.X σ.X k (f + us) (3 + nf + nw)) k (-(nI (f + us))))) nc (nI (f + us)) hnc hF0) (gx_cwV hts l_Nr_185 k_Nr_noteCopy ki_Nr_noteCopy ke_Nr_noteCopy z_Nr n_Nr_noteCopy ⟨by decide, by decide⟩) hK hP hD hS hA (va_recv hK hP (ci := 1) (q0 := 0) rfl rfl) hl.1 rfl rfl (Nat.le_of_ble_eq_true rfl) ⟨by decide, by decide⟩ dNr_copyOf_141 (fun u_11 H locs hq_12 hP hD hS => ?_)
            subst hq_12
            have hP : va_P D gC (nrW cI cP a ((((((σ.sP 3 (σ.P 3 0, σ.P 3 1, (σ.P 3 2) + (nI (3 + nf + nw)), (σ.P 3 3) + 1)).sX (va_cpy σ.X σ.X k (f + us) (3 + nf + nw))).sF 5 ((σ.F 5) + 1)).sX (upd (va_cpy σ.X σ.X k (f + us) (3 + nf + nw)) k (-(nI (f + us))))).sC (upd σ.C nc (nI (f + us)))).sF 0 (nI (nc + 1)))) H := hP
            have hD : va_D A (nrW cI cP a ((((((σ.sP 3 (σ.P 3 0, σ.P 3 1, (σ.P 3 2) + (nI (3 + nf + nw)), (σ.P 3 3) + 1)).sX (va_cpy σ.X σ.X k (f + us) (3 + nf + nw))).sF 5 ((σ.F 5) + 1)).sX (upd (va_cpy σ.X σ.X k (f + us) (3 + nf + nw)) k (-(nI (f + us))))).sC (upd σ.C nc (nI (f + us)))).sF 0 (nI (nc + 1)))) := hD
            refine lv_iload hx hb dNr_copyOf_144 (lv_at hl 0 rfl) ?_
            exact gx_iret (u := (((((σ.sP 3 (σ.P 3 0, σ.P 3 1, (σ.P 3 2) + (nI (3 + nf + nw)), (σ.P 3 3) + 1)).sX (va_cpy σ.X σ.X k (f + us) (3 + nf + nw))).sF 5 ((σ.F 5) + 1)).sX (upd (va_cpy σ.X σ.X k (f + us) (3 + nf + nw)) k (-(nI (f + us))))).sC (upd σ.C nc (nI (f + us)))).sF 0 (nI (nc + 1))) E hK hP hD hS ⟨rfl, rfl⟩ dNr_copyOf_146
          · exact absurd c_90 (by decide)
        · exact absurd c_50 (by decide)
      · exact absurd c_38 (fun z => (hst.elim (fun h => h (Int32.not_le.mp c_30)) (fun h => z h)))
  · refine lv_aload_n hx hb dNr_copyOf_0 rfl (lv_at hl 0 rfl) ?_
    refine lv_iload_n hx hb dNr_copyOf_1 rfl (lv_at hl 1 rfl) ?_
    refine gx_callp (C := "NurseryRow") (As := [.int (nI k)]) (rest := []) E (qNr_sizeAt l D cI cP a σ k (by omega) hN) (gx_cwV hts l_Nr_150 k_Nr_sizeAt ki_Nr_sizeAt ke_Nr_sizeAt z_Nr n_Nr_sizeAt ⟨by decide, by decide⟩) hK hP hD (va_recv hK hP (ci := 1) (q0 := 0) rfl rfl) hl.1 rfl rfl (Nat.le_of_ble_eq_true rfl) ⟨Nat.zero_le _, Nat.zero_le _⟩ dNr_copyOf_2 ?_
    refine gx_top (z := nI (3 + nf + nw)) (by rw [hX0, hX1, show (3 : Int32) = nI 3 from rfl, nI_add, nI_add]) ?_
    refine lv_istore_n (lv' := [(2, .int (nI (3 + nf + nw))), (0, .ref (a 0)), (1, .int (nI k))]) hx hb dNr_copyOf_5 rfl hl (by decide) rfl (fun ls hl => ?_)
    refine lv_aload_n hx hb dNr_copyOf_6 rfl (lv_at hl 1 rfl) ?_
    refine va_get (C := RNr) (T := TNr) (N := 10) (ci := 1) (v := .ref (a 1)) hx hb hg inNr hown hK hP 0 rfl rfl 0 (by decide) (hg _ f_Nr_11) (fun _ h9 => h9) rfl dNr_copyOf_7 ?_
    refine lv_iconst (v := 2) hx hb dNr_copyOf_10 (by decide) ?_
    refine lv_aload_n hx hb dNr_copyOf_11 rfl (lv_at hl 1 rfl) ?_
    refine va_get (C := RNr) (T := TNr) (N := 10) (ci := 1) (v := .int (σ.F 2)) hx hb hg inNr hown hK hP 0 rfl rfl 6 (by decide) (hg _ f_Nr_58) (fun _ h9 => h9) rfl dNr_copyOf_12 ?_
    refine gx_top (z := 1) hrw ?_
    refine lv_isub hx hb dNr_copyOf_15 ?_
    refine gx_top (z := 1) (by decide) ?_
    refine va_aldq hx hb hK hP 1 1 rfl rfl (by unfold vp_in; decide) dNr_copyOf_16 ?_
    refine gx_stk (st' := [.ref (a (2 + 1))]) rfl ?_
    refine lv_astore_n (lv' := [(3, .ref (a (2 + 1))), (2, .int (nI (3 + nf + nw))), (0, .ref (a 0)), (1, .int (nI k))]) hx hb dNr_copyOf_17 rfl hl (by decide) rfl (fun ls hl => ?_)
    refine lv_aload_n hx hb dNr_copyOf_18 rfl (lv_at hl 2 rfl) ?_
    refine va_get (C := RNr) (T := TNr) (N := 10) (ci := 1) (v := .ref σ.hx) hx hb hg inNr hown hK hP 0 rfl rfl 3 (by decide) (hg _ f_Nr_23) (fun _ h9 => h9) rfl dNr_copyOf_19 ?_
    refine lv_iload_n hx hb dNr_copyOf_22 rfl (lv_at hl 3 rfl) ?_
    refine lv_iconst (v := 2) hx hb dNr_copyOf_23 (by decide) ?_
    refine lv_iadd hx hb dNr_copyOf_24 ?_
    refine gx_top (z := nI (k + 2)) (by rw [show (2 : Int32) = nI 2 from rfl, nI_add]) ?_
    refine va_iald hx hb hK hP 8 0 rfl rfl (vp_in_nI (show k + 2 < σ.N by omega) hN) dNr_copyOf_25 ?_
    refine gx_top (z := σ.X (k + 2)) (congrArg _ (nI_clamp (show k + 2 < 2 ^ 31 by omega))) ?_
    refine lv_aload_n hx hb dNr_copyOf_26 rfl (lv_at hl 2 rfl) ?_
    refine va_get (C := RNr) (T := TNr) (N := 10) (ci := 1) (v := .int (σ.F 1)) hx hb hg inNr hown hK hP 0 rfl rfl 5 (by decide) (hg _ f_Nr_26) (fun _ h9 => h9) rfl dNr_copyOf_27 ?_
    refine lv_icmp_ge (tgt := 45) hx hb dNr_copyOf_30 (by decide) (fun c_30 => ?_) (fun c_30 => ?_)
    · refine lv_iconst (v := 0) hx hb dNr_copyOf_45 (by decide) ?_
      refine lv_istore (lv' := [(4, .int 0), (3, .ref (a (2 + 1))), (2, .int (nI (3 + nf + nw))), (0, .ref (a 0)), (1, .int (nI k))]) hx hb dNr_copyOf_46 hl (by decide) rfl (fun ls hl => ?_)
      refine lv_iload hx hb dNr_copyOf_48 (lv_at hl 0 rfl) ?_
      refine lv_if_eq (tgt := 61) hx hb dNr_copyOf_50 (by decide) (fun c_50 => ?_) (fun c_50 => ?_)
      · refine lv_aload_n hx hb dNr_copyOf_61 rfl (lv_at hl 3 rfl) ?_
        refine va_get (C := RNr) (T := TNr) (N := 10) (ci := 1) (v := .ref (a 1)) hx hb hg inNr hown hK hP 0 rfl rfl 0 (by decide) (hg _ f_Nr_11) (fun _ h9 => h9) rfl dNr_copyOf_62 ?_
        refine lv_iconst (v := 3) hx hb dNr_copyOf_65 (by decide) ?_
        refine va_aldq hx hb hK hP 1 1 rfl rfl (by unfold vp_in; decide) dNr_copyOf_66 ?_
        refine gx_stk (st' := [.ref (a (2 + 3))]) rfl ?_
        refine lv_iload_n hx hb dNr_copyOf_67 rfl (lv_at hl 2 rfl) ?_
        refine gx_calli (C := "NurseryRow$Part") (As := [.int (nI (3 + nf + nw))]) (rest := []) E (nr_lifti (i := 3) (by decide) (qPt_take l D _ (a (2 + 3)) (σ.p 3) (nI (3 + nf + nw)))) (gx_cwV hts l_Nr_77 k_Pt_take ki_Pt_take ke_Pt_take z_Pt n_Pt_take ⟨by decide, by decide⟩) hK hP hD hS hA (va_recv hK hP (ci := 0) (q0 := 5) rfl rfl) hl.1 rfl rfl (Nat.le_of_ble_eq_true rfl) ⟨by decide, by decide⟩ dNr_copyOf_68 (fun r_13 u_14 H locs hq_15 hP hD hS => ?_)
        obtain ⟨v, ⟨hr1, hv⟩, hu⟩ := hq_15
        subst hu; subst hv
        have hr1 : r_13 = (σ.P 3 0) + (σ.P 3 2) := hr1
        subst hr1
        have hP : va_P D gC (nrW cI cP a (σ.sP 3 (σ.P 3 0, σ.P 3 1, (σ.P 3 2) + (nI (3 + nf + nw)), (σ.P 3 3) + 1))) H := hP
        have hD : va_D A (nrW cI cP a (σ.sP 3 (σ.P 3 0, σ.P 3 1, (σ.P 3 2) + (nI (3 + nf + nw)), (σ.P 3 3) + 1))) := hD
        refine gx_top (z := nI (f + us)) (by rw [hPf, hPu, nI_add]) ?_
        refine lv_istore (lv' := [(5, .int (nI (f + us))), (4, .int 0), (3, .ref (a (2 + 1))), (2, .int (nI (3 + nf + nw))), (0, .ref (a 0)), (1, .int (nI k))]) hx hb dNr_copyOf_71 hl (by decide) rfl (fun ls hl => ?_)
        refine lv_aload_n hx hb dNr_copyOf_73 rfl (lv_at hl 4 rfl) ?_
        refine va_get (C := RNr) (T := TNr) (N := 10) (ci := 1) (v := .ref σ.hx) hx hb hg inNr hown hK hP 0 rfl rfl 3 (by decide) (hg _ f_Nr_23) (fun _ h9 => h9) rfl dNr_copyOf_74 ?_
        refine lv_iload_n hx hb dNr_copyOf_77 rfl (lv_at hl 5 rfl) ?_
        refine lv_aload_n hx hb dNr_copyOf_78 rfl (lv_at hl 4 rfl) ?_
        refine va_get (C := RNr) (T := TNr) (N := 10) (ci := 1) (v := .ref σ.hx) hx hb hg inNr hown hK hP 0 rfl rfl 3 (by decide) (hg _ f_Nr_23) (fun _ h9 => h9) rfl dNr_copyOf_79 ?_
        refine lv_iload hx hb dNr_copyOf_82 (lv_at hl 0 rfl) ?_
        refine lv_iload_n hx hb dNr_copyOf_84 rfl (lv_at hl 3 rfl) ?_
        refine va_copyi hx hb (hml.trans hl.1.symm) hown (hg _ l_Nr_179) (hg _ kx_na) (hg _ kx_st) (hg _ z_System) hK hP hD hS 8 8 0 0 rfl rfl rfl rfl rfl (nI_pos (by omega)) (nI_pos (by omega)) (nI_pos (by omega)) (by rw [nI_clamp (by omega), nI_clamp (by omega)]; exact hk) (by rw [nI_clamp (by omega), nI_clamp (by omega)]; exact hb2) (fun _ _ => rfl) (by decide) (by decide) dNr_copyOf_85 (fun H locs hP hD hS => ?_)
        rw [nI_clamp (show k < 2 ^ 31 by omega), nI_clamp (show f + us < 2 ^ 31 by omega), nI_clamp (show 3 + nf + nw < 2 ^ 31 by omega)] at hP hD
        have hP : va_P D gC (nrW cI cP a ((σ.sP 3 (σ.P 3 0, σ.P 3 1, (σ.P 3 2) + (nI (3 + nf + nw)), (σ.P 3 3) + 1)).sX (va_cpy σ.X σ.X k (f + us) (3 + nf + nw)))) H := hP
        have hD : va_D A (nrW cI cP a ((σ.sP 3 (σ.P 3 0, σ.P 3 1, (σ.P 3 2) + (nI (3 + nf + nw)), (σ.P 3 3) + 1)).sX (va_cpy σ.X σ.X k (f + us) (3 + nf + nw)))) := hD
        refine lv_iload hx hb dNr_copyOf_88 (lv_at hl 1 rfl) ?_
        refine lv_if_eq (tgt := 119) hx hb dNr_copyOf_90 (by decide) (fun c_90 => ?_) (fun c_90 => ?_)
        · refine lv_aload_n hx hb dNr_copyOf_119 rfl (lv_at hl 4 rfl) ?_
          refine lv_dup hx hb dNr_copyOf_120 rfl ?_
          refine va_get (C := RNr) (T := TNr) (N := 10) (ci := 1) (v := .int (σ.F 5)) hx hb hg inNr hown hK hP 0 rfl rfl 9 (by decide) (hg _ f_Nr_67) (fun _ h9 => h9) rfl dNr_copyOf_121 ?_
          refine lv_iconst (v := 1) hx hb dNr_copyOf_124 (by decide) ?_
          refine lv_iadd hx hb dNr_copyOf_125 ?_
          refine va_put (C := RNr) (T := TNr) (N := 10) (ci := 1) (v := .int ((σ.F 5) + 1)) hx hb hg inNr tyNr tyNr_ok nmNr hown hK hP hD hS 0 rfl rfl 9 (by decide) (hg _ f_Nr_67) (fun _ h9 => h9) rfl (tyNr_ok 9 (by decide)) rfl rfl (Nat.le_of_ble_eq_true rfl) dNr_copyOf_126 (fun H locs hP hD hS => ?_)
          have hP : va_P D gC (nrW cI cP a (((σ.sP 3 (σ.P 3 0, σ.P 3 1, (σ.P 3 2) + (nI (3 + nf + nw)), (σ.P 3 3) + 1)).sX (va_cpy σ.X σ.X k (f + us) (3 + nf + nw))).sF 5 ((σ.F 5) + 1))) H := hP
          have hD : va_D A (nrW cI cP a (((σ.sP 3 (σ.P 3 0, σ.P 3 1, (σ.P 3 2) + (nI (3 + nf + nw)), (σ.P 3 3) + 1)).sX (va_cpy σ.X σ.X k (f + us) (3 + nf + nw))).sF 5 ((σ.F 5) + 1))) := hD
          refine lv_aload_n hx hb dNr_copyOf_129 rfl (lv_at hl 4 rfl) ?_
          refine va_get (C := RNr) (T := TNr) (N := 10) (ci := 1) (v := .ref σ.hx) hx hb hg inNr hown hK hP 0 rfl rfl 3 (by decide) (hg _ f_Nr_23) (fun _ h9 => h9) rfl dNr_copyOf_130 ?_
          refine lv_iload_n hx hb dNr_copyOf_133 rfl (lv_at hl 5 rfl) ?_
          refine lv_iload hx hb dNr_copyOf_134 (lv_at hl 0 rfl) ?_
          refine lv_ineg hx hb dNr_copyOf_136 ?_
          refine va_iast hx hb hK hP hD hS 8 0 rfl rfl (vp_in_nI (show k < σ.N by omega) hN) dNr_copyOf_137 (fun H locs hP hD hS => ?_)
          rw [nI_clamp (show k < 2 ^ 31 by omega)] at hP hD
          have hP : va_P D gC (nrW cI cP a ((((σ.sP 3 (σ.P 3 0, σ.P 3 1, (σ.P 3 2) + (nI (3 + nf + nw)), (σ.P 3 3) + 1)).sX (va_cpy σ.X σ.X k (f + us) (3 + nf + nw))).sF 5 ((σ.F 5) + 1)).sX (upd (va_cpy σ.X σ.X k (f + us) (3 + nf + nw)) k (-(nI (f + us)))))) H := hP
          have hD : va_D A (nrW cI cP a ((((σ.sP 3 (σ.P 3 0, σ.P 3 1, (σ.P 3 2) + (nI (3 + nf + nw)), (σ.P 3 3) + 1)).sX (va_cpy σ.X σ.X k (f + us) (3 + nf + nw))).sF 5 ((σ.F 5) + 1)).sX (upd (va_cpy σ.X σ.X k (f + us) (3 + nf + nw)) k (-(nI (f + us)))))) := hD
          refine lv_aload_n hx hb dNr_copyOf_138 rfl (lv_at hl 4 rfl) ?_
          refine lv_iload hx hb dNr_copyOf_139 (lv_at hl 0 rfl) ?_
          refine gx_callv (C := "NurseryRow") (As := [.int (nI (f + us))]) (rest := []) E (qNr_noteCopy l D cI cP a ((((σ.sP 3 (σ.P 3 0, σ.P 3 1, (σ.P 3 2) + (nI (3 + nf + nw)), (σ.P 3 3) + 1)).sX (va_cpy σ.X σ.X k (f + us) (3 + nf + nw))).sF 5 ((σ.F 5) + 1)).sX (upd (va_cpy σ.X σ.X k (f + us) (3 + nf + nw)) k (-(nI (f + us))))) nc (nI (f + us)) hnc hF0) (gx_cwV hts l_Nr_185 k_Nr_noteCopy ki_Nr_noteCopy ke_Nr_noteCopy z_Nr n_Nr_noteCopy ⟨by decide, by decide⟩) hK hP hD hS hA (va_recv hK hP (ci := 1) (q0 := 0) rfl rfl) hl.1 rfl rfl (Nat.le_of_ble_eq_true rfl) ⟨by decide, by decide⟩ dNr_copyOf_141 (fun u_17 H locs hq_18 hP hD hS => ?_)
          subst hq_18
          have hP : va_P D gC (nrW cI cP a ((((((σ.sP 3 (σ.P 3 0, σ.P 3 1, (σ.P 3 2) + (nI (3 + nf + nw)), (σ.P 3 3) + 1)).sX (va_cpy σ.X σ.X k (f + us) (3 + nf + nw))).sF 5 ((σ.F 5) + 1)).sX (upd (va_cpy σ.X σ.X k (f + us) (3 + nf + nw)) k (-(nI (f + us))))).sC (upd σ.C nc (nI (f + us)))).sF 0 (nI (nc + 1)))) H := hP
          have hD : va_D A (nrW cI cP a ((((((σ.sP 3 (σ.P 3 0, σ.P 3 1, (σ.P 3 2) + (nI (3 + nf + nw)), (σ.P 3 3) + 1)).sX (va_cpy σ.X σ.X k (f + us) (3 + nf + nw))).sF 5 ((σ.F 5) + 1)).sX (upd (va_cpy σ.X σ.X k (f + us) (3 + nf + nw)) k (-(nI (f + us))))).sC (upd σ.C nc (nI (f + us)))).sF 0 (nI (nc + 1)))) := hD
          refine lv_iload hx hb dNr_copyOf_144 (lv_at hl 0 rfl) ?_
          exact gx_iret (u := (((((σ.sP 3 (σ.P 3 0, σ.P 3 1, (σ.P 3 2) + (nI (3 + nf + nw)), (σ.P 3 3) + 1)).sX (va_cpy σ.X σ.X k (f + us) (3 + nf + nw))).sF 5 ((σ.F 5) + 1)).sX (upd (va_cpy σ.X σ.X k (f + us) (3 + nf + nw)) k (-(nI (f + us))))).sC (upd σ.C nc (nI (f + us)))).sF 0 (nI (nc + 1))) E hK hP hD hS ⟨rfl, rfl⟩ dNr_copyOf_146
        · exact absurd c_90 (by decide)
      · exact absurd c_50 (by decide)
    · refine lv_aload_n hx hb dNr_copyOf_33 rfl (lv_at hl 0 rfl) ?_
      refine gx_callp (C := "NurseryRow$Part") (As := []) (rest := []) E (nr_liftp (i := 1) (by decide) (qPt_free l D _ (a (2 + 1)) (σ.p 1))) (gx_cwV hts l_Nr_74 k_Pt_free ki_Pt_free ke_Pt_free z_Pt n_Pt_free ⟨by decide, by decide⟩) hK hP hD (va_recv hK hP (ci := 0) (q0 := 3) rfl rfl) hl.1 rfl rfl (Nat.le_of_ble_eq_true rfl) ⟨Nat.zero_le _, Nat.zero_le _⟩ dNr_copyOf_34 ?_
      refine gx_top (z := (σ.P 1 1) - (σ.P 1 2)) rfl ?_
      refine lv_iload_n hx hb dNr_copyOf_37 rfl (lv_at hl 1 rfl) ?_
      refine lv_icmp_lt (tgt := 45) hx hb dNr_copyOf_38 (by decide) (fun c_38 => ?_) (fun c_38 => ?_)
      · refine lv_iconst (v := 0) hx hb dNr_copyOf_45 (by decide) ?_
        refine lv_istore (lv' := [(4, .int 0), (3, .ref (a (2 + 1))), (2, .int (nI (3 + nf + nw))), (0, .ref (a 0)), (1, .int (nI k))]) hx hb dNr_copyOf_46 hl (by decide) rfl (fun ls hl => ?_)
        refine lv_iload hx hb dNr_copyOf_48 (lv_at hl 0 rfl) ?_
        refine lv_if_eq (tgt := 61) hx hb dNr_copyOf_50 (by decide) (fun c_50 => ?_) (fun c_50 => ?_)
        · refine lv_aload_n hx hb dNr_copyOf_61 rfl (lv_at hl 3 rfl) ?_
          refine va_get (C := RNr) (T := TNr) (N := 10) (ci := 1) (v := .ref (a 1)) hx hb hg inNr hown hK hP 0 rfl rfl 0 (by decide) (hg _ f_Nr_11) (fun _ h9 => h9) rfl dNr_copyOf_62 ?_
          refine lv_iconst (v := 3) hx hb dNr_copyOf_65 (by decide) ?_
          refine va_aldq hx hb hK hP 1 1 rfl rfl (by unfold vp_in; decide) dNr_copyOf_66 ?_
          refine gx_stk (st' := [.ref (a (2 + 3))]) rfl ?_
          refine lv_iload_n hx hb dNr_copyOf_67 rfl (lv_at hl 2 rfl) ?_
          refine gx_calli (C := "NurseryRow$Part") (As := [.int (nI (3 + nf + nw))]) (rest := []) E (nr_lifti (i := 3) (by decide) (qPt_take l D _ (a (2 + 3)) (σ.p 3) (nI (3 + nf + nw)))) (gx_cwV hts l_Nr_77 k_Pt_take ki_Pt_take ke_Pt_take z_Pt n_Pt_take ⟨by decide, by decide⟩) hK hP hD hS hA (va_recv hK hP (ci := 0) (q0 := 5) rfl rfl) hl.1 rfl rfl (Nat.le_of_ble_eq_true rfl) ⟨by decide, by decide⟩ dNr_copyOf_68 (fun r_19 u_20 H locs hq_21 hP hD hS => ?_)
          obtain ⟨v, ⟨hr1, hv⟩, hu⟩ := hq_21
          subst hu; subst hv
          have hr1 : r_19 = (σ.P 3 0) + (σ.P 3 2) := hr1
          subst hr1
          have hP : va_P D gC (nrW cI cP a (σ.sP 3 (σ.P 3 0, σ.P 3 1, (σ.P 3 2) + (nI (3 + nf + nw)), (σ.P 3 3) + 1))) H := hP
          have hD : va_D A (nrW cI cP a (σ.sP 3 (σ.P 3 0, σ.P 3 1, (σ.P 3 2) + (nI (3 + nf + nw)), (σ.P 3 3) + 1))) := hD
          refine gx_top (z := nI (f + us)) (by rw [hPf, hPu, nI_add]) ?_
          refine lv_istore (lv' := [(5, .int (nI (f + us))), (4, .int 0), (3, .ref (a (2 + 1))), (2, .int (nI (3 + nf + nw))), (0, .ref (a 0)), (1, .int (nI k))]) hx hb dNr_copyOf_71 hl (by decide) rfl (fun ls hl => ?_)
          refine lv_aload_n hx hb dNr_copyOf_73 rfl (lv_at hl 4 rfl) ?_
          refine va_get (C := RNr) (T := TNr) (N := 10) (ci := 1) (v := .ref σ.hx) hx hb hg inNr hown hK hP 0 rfl rfl 3 (by decide) (hg _ f_Nr_23) (fun _ h9 => h9) rfl dNr_copyOf_74 ?_
          refine lv_iload_n hx hb dNr_copyOf_77 rfl (lv_at hl 5 rfl) ?_
          refine lv_aload_n hx hb dNr_copyOf_78 rfl (lv_at hl 4 rfl) ?_
          refine va_get (C := RNr) (T := TNr) (N := 10) (ci := 1) (v := .ref σ.hx) hx hb hg inNr hown hK hP 0 rfl rfl 3 (by decide) (hg _ f_Nr_23) (fun _ h9 => h9) rfl dNr_copyOf_79 ?_
          refine lv_iload hx hb dNr_copyOf_82 (lv_at hl 0 rfl) ?_
          refine lv_iload_n hx hb dNr_copyOf_84 rfl (lv_at hl 3 rfl) ?_
          refine va_copyi hx hb (hml.trans hl.1.symm) hown (hg _ l_Nr_179) (hg _ kx_na) (hg _ kx_st) (hg _ z_System) hK hP hD hS 8 8 0 0 rfl rfl rfl rfl rfl (nI_pos (by omega)) (nI_pos (by omega)) (nI_pos (by omega)) (by rw [nI_clamp (by omega), nI_clamp (by omega)]; exact hk) (by rw [nI_clamp (by omega), nI_clamp (by omega)]; exact hb2) (fun _ _ => rfl) (by decide) (by decide) dNr_copyOf_85 (fun H locs hP hD hS => ?_)
          rw [nI_clamp (show k < 2 ^ 31 by omega), nI_clamp (show f + us < 2 ^ 31 by omega), nI_clamp (show 3 + nf + nw < 2 ^ 31 by omega)] at hP hD
          have hP : va_P D gC (nrW cI cP a ((σ.sP 3 (σ.P 3 0, σ.P 3 1, (σ.P 3 2) + (nI (3 + nf + nw)), (σ.P 3 3) + 1)).sX (va_cpy σ.X σ.X k (f + us) (3 + nf + nw)))) H := hP
          have hD : va_D A (nrW cI cP a ((σ.sP 3 (σ.P 3 0, σ.P 3 1, (σ.P 3 2) + (nI (3 + nf + nw)), (σ.P 3 3) + 1)).sX (va_cpy σ.X σ.X k (f + us) (3 + nf + nw)))) := hD
          refine lv_iload hx hb dNr_copyOf_88 (lv_at hl 1 rfl) ?_
          refine lv_if_eq (tgt := 119) hx hb dNr_copyOf_90 (by decide) (fun c_90 => ?_) (fun c_90 => ?_)
          · refine lv_aload_n hx hb dNr_copyOf_119 rfl (lv_at hl 4 rfl) ?_
            refine lv_dup hx hb dNr_copyOf_120 rfl ?_
            refine va_get (C := RNr) (T := TNr) (N := 10) (ci := 1) (v := .int (σ.F 5)) hx hb hg inNr hown hK hP 0 rfl rfl 9 (by decide) (hg _ f_Nr_67) (fun _ h9 => h9) rfl dNr_copyOf_121 ?_
            refine lv_iconst (v := 1) hx hb dNr_copyOf_124 (by decide) ?_
            refine lv_iadd hx hb dNr_copyOf_125 ?_
            refine va_put (C := RNr) (T := TNr) (N := 10) (ci := 1) (v := .int ((σ.F 5) + 1)) hx hb hg inNr tyNr tyNr_ok nmNr hown hK hP hD hS 0 rfl rfl 9 (by decide) (hg _ f_Nr_67) (fun _ h9 => h9) rfl (tyNr_ok 9 (by decide)) rfl rfl (Nat.le_of_ble_eq_true rfl) dNr_copyOf_126 (fun H locs hP hD hS => ?_)
            have hP : va_P D gC (nrW cI cP a (((σ.sP 3 (σ.P 3 0, σ.P 3 1, (σ.P 3 2) + (nI (3 + nf + nw)), (σ.P 3 3) + 1)).sX (va_cpy σ.X σ.X k (f + us) (3 + nf + nw))).sF 5 ((σ.F 5) + 1))) H := hP
            have hD : va_D A (nrW cI cP a (((σ.sP 3 (σ.P 3 0, σ.P 3 1, (σ.P 3 2) + (nI (3 + nf + nw)), (σ.P 3 3) + 1)).sX (va_cpy σ.X σ.X k (f + us) (3 + nf + nw))).sF 5 ((σ.F 5) + 1))) := hD
            refine lv_aload_n hx hb dNr_copyOf_129 rfl (lv_at hl 4 rfl) ?_
            refine va_get (C := RNr) (T := TNr) (N := 10) (ci := 1) (v := .ref σ.hx) hx hb hg inNr hown hK hP 0 rfl rfl 3 (by decide) (hg _ f_Nr_23) (fun _ h9 => h9) rfl dNr_copyOf_130 ?_
            refine lv_iload_n hx hb dNr_copyOf_133 rfl (lv_at hl 5 rfl) ?_
            refine lv_iload hx hb dNr_copyOf_134 (lv_at hl 0 rfl) ?_
            refine lv_ineg hx hb dNr_copyOf_136 ?_
            refine va_iast hx hb hK hP hD hS 8 0 rfl rfl (vp_in_nI (show k < σ.N by omega) hN) dNr_copyOf_137 (fun H locs hP hD hS => ?_)
            rw [nI_clamp (show k < 2 ^ 31 by omega)] at hP hD
            have hP : va_P D gC (nrW cI cP a ((((σ.sP 3 (σ.P 3 0, σ.P 3 1, (σ.P 3 2) + (nI (3 + nf + nw)), (σ.P 3 3) + 1)).sX (va_cpy σ.X σ.X k (f + us) (3 + nf + nw))).sF 5 ((σ.F 5) + 1)).sX (upd (va_cpy σ.X σ.X k (f + us) (3 + nf + nw)) k (-(nI (f + us)))))) H := hP
            have hD : va_D A (nrW cI cP a ((((σ.sP 3 (σ.P 3 0, σ.P 3 1, (σ.P 3 2) + (nI (3 + nf + nw)), (σ.P 3 3) + 1)).sX (va_cpy σ.X σ.X k (f + us) (3 + nf + nw))).sF 5 ((σ.F 5) + 1)).sX (upd (va_cpy σ.X σ.X k (f + us) (3 + nf + nw)) k (-(nI (f + us)))))) := hD
            refine lv_aload_n hx hb dNr_copyOf_138 rfl (lv_at hl 4 rfl) ?_
            refine lv_iload hx hb dNr_copyOf_139 (lv_at hl 0 rfl) ?_
            refine gx_callv (C := "NurseryRow") (As := [.int (nI (f + us))]) (rest := []) E (qNr_noteCopy l D cI cP a ((((σ.sP 3 (σ.P 3 0, σ.P 3 1, (σ.P 3 2) + (nI (3 + nf + nw)), (σ.P 3 3) + 1)).sX (va_cpy σ.X σ.X k (f + us) (3 + nf + nw))).sF 5 ((σ.F 5) + 1)).sX (upd (va_cpy σ.X σ.X k (f + us) (3 + nf + nw)) k (-(nI (f + us))))) nc (nI (f + us)) hnc hF0) (gx_cwV hts l_Nr_185 k_Nr_noteCopy ki_Nr_noteCopy ke_Nr_noteCopy z_Nr n_Nr_noteCopy ⟨by decide, by decide⟩) hK hP hD hS hA (va_recv hK hP (ci := 1) (q0 := 0) rfl rfl) hl.1 rfl rfl (Nat.le_of_ble_eq_true rfl) ⟨by decide, by decide⟩ dNr_copyOf_141 (fun u_23 H locs hq_24 hP hD hS => ?_)
            subst hq_24
            have hP : va_P D gC (nrW cI cP a ((((((σ.sP 3 (σ.P 3 0, σ.P 3 1, (σ.P 3 2) + (nI (3 + nf + nw)), (σ.P 3 3) + 1)).sX (va_cpy σ.X σ.X k (f + us) (3 + nf + nw))).sF 5 ((σ.F 5) + 1)).sX (upd (va_cpy σ.X σ.X k (f + us) (3 + nf + nw)) k (-(nI (f + us))))).sC (upd σ.C nc (nI (f + us)))).sF 0 (nI (nc + 1)))) H := hP
            have hD : va_D A (nrW cI cP a ((((((σ.sP 3 (σ.P 3 0, σ.P 3 1, (σ.P 3 2) + (nI (3 + nf + nw)), (σ.P 3 3) + 1)).sX (va_cpy σ.X σ.X k (f + us) (3 + nf + nw))).sF 5 ((σ.F 5) + 1)).sX (upd (va_cpy σ.X σ.X k (f + us) (3 + nf + nw)) k (-(nI (f + us))))).sC (upd σ.C nc (nI (f + us)))).sF 0 (nI (nc + 1)))) := hD
            refine lv_iload hx hb dNr_copyOf_144 (lv_at hl 0 rfl) ?_
            exact gx_iret (u := (((((σ.sP 3 (σ.P 3 0, σ.P 3 1, (σ.P 3 2) + (nI (3 + nf + nw)), (σ.P 3 3) + 1)).sX (va_cpy σ.X σ.X k (f + us) (3 + nf + nw))).sF 5 ((σ.F 5) + 1)).sX (upd (va_cpy σ.X σ.X k (f + us) (3 + nf + nw)) k (-(nI (f + us))))).sC (upd σ.C nc (nI (f + us)))).sF 0 (nI (nc + 1))) E hK hP hD hS ⟨rfl, rfl⟩ dNr_copyOf_146
          · exact absurd c_90 (by decide)
        · exact absurd c_50 (by decide)
      · exact absurd c_38 (fun z => (hst.elim (fun h => h (Int32.not_le.mp c_30)) (fun h => z h)))
end
section
/-! A COLLECTION'S STEPS, as evidence: what each of the class's methods does to its state -/
def cpH (σ : nSt) (i k nf nw f us nc : Nat) : Prop :=
  σ.X k = nI nf ∧ σ.X (k + 1) = nI nw ∧ nf ≤ 200 ∧ nw ≤ 200 ∧ k + (3 + nf + nw) ≤ σ.N ∧ σ.P i 0 = nI f ∧ σ.P i 2 = nI us ∧ f + us + (3 + nf + nw) ≤ σ.N ∧ nc < 512 ∧ σ.F 0 = nI nc
/-- what 'follow' does -/
def Fol (σ : nSt) (c0 : Nat) (x r : Int32) (u : nSt) : Prop :=
  (isY σ c0 x = 0 ∧ r = x ∧ u = σ) ∨
  (∃ k, x = nI k ∧ k < σ.N ∧ ¬ isY σ c0 x = 0 ∧ σ.X k < 0 ∧ r = -σ.X k ∧ u = σ) ∨
  (∃ k nf nw f us nc, x = nI k ∧ ¬ isY σ c0 x = 0 ∧ ¬ σ.X k < 0 ∧ cpH σ (2 - c0) k nf nw f us nc ∧ σ.X (k + 2) < σ.F 1 ∧ ¬ σ.P (2 - c0) 1 - σ.P (2 - c0) 2 < nI (3 + nf + nw) ∧ r = nI (f + us) ∧ u = cpR σ (2 - c0) k (3 + nf + nw) (f + us) nc) ∨
  (∃ k nf nw f us nc, x = nI k ∧ ¬ isY σ c0 x = 0 ∧ ¬ σ.X k < 0 ∧ cpH σ 3 k nf nw f us nc ∧ (¬ σ.X (k + 2) < σ.F 1 ∨ σ.P (2 - c0) 1 - σ.P (2 - c0) 2 < nI (3 + nf + nw)) ∧ r = nI (f + us) ∧ u = cpO σ k (3 + nf + nw) (f + us) nc)
/-- the row in use is c0 -/
def rwI (σ : nSt) (c0 : Nat) : Prop := (σ.F 2 = 0 ∧ c0 = 0) ∨ (σ.F 2 = 1 ∧ c0 = 1)
theorem rwI.j {σ : nSt} {c0 : Nat} (h : rwI σ c0) : (σ.F 2 = 0 ∧ 2 - c0 = 2) ∨ (σ.F 2 = 1 ∧ 2 - c0 = 1) := by
  rcases h with ⟨h, rfl⟩ | ⟨h, rfl⟩
  · exact Or.inl ⟨h, rfl⟩
  · exact Or.inr ⟨h, rfl⟩
theorem Fol.kept {σ : nSt} {c0 : Nat} {x r : Int32} {u : nSt} (h : Fol σ c0 x r u) : u.F 2 = σ.F 2 ∧ u.N = σ.N ∧ u.hx = σ.hx ∧ u.R = σ.R ∧ u.F 1 = σ.F 1 ∧ u.F 3 = σ.F 3 := by
  rcases h with ⟨-, -, rfl⟩ | ⟨k, -, -, -, -, -, rfl⟩ | ⟨k, nf, nw, f, us, nc, -, -, -, -, -, -, -, rfl⟩ | ⟨k, nf, nw, f, us, nc, -, -, -, -, -, -, rfl⟩ <;> exact ⟨rfl, rfl, rfl, rfl, rfl, rfl⟩
/-- n cells from k on, each told what it tells behind the collection -/
def FolN (c0 : Nat) : Nat → Nat → nSt → nSt → Prop
  | 0, _, σ, u => u = σ
  | n + 1, k, σ, u => ∃ (r : Int32) (v : nSt), k < σ.N ∧ Fol σ c0 (σ.X k) r v ∧ FolN c0 n (k + 1) (v.sX (upd v.X k r)) u
theorem FolN.kept {c0 : Nat} : ∀ {n k : Nat} {σ u : nSt}, FolN c0 n k σ u → u.F 2 = σ.F 2 ∧ u.N = σ.N ∧ u.hx = σ.hx ∧ u.R = σ.R ∧ u.F 1 = σ.F 1 ∧ u.F 3 = σ.F 3
  | 0, _, _, _, h => by cases h; exact ⟨rfl, rfl, rfl, rfl, rfl, rfl⟩
  | n + 1, k, σ, u, ⟨r, v, _, h1, h2⟩ => by
    have a := h1.kept
    have b := FolN.kept h2
    exact ⟨b.1.trans a.1, b.2.1.trans a.2.1, b.2.2.1.trans a.2.2.1, b.2.2.2.1.trans a.2.2.2.1, b.2.2.2.2.1.trans a.2.2.2.2.1, b.2.2.2.2.2.trans a.2.2.2.2.2⟩
/-- the roots from i on, n of them -/
def FolR (c0 : Nat) : Nat → Nat → nSt → nSt → Prop
  | 0, _, σ, u => u = σ
  | n + 1, i, σ, u => ∃ (r : Int32) (v : nSt), Fol σ c0 (σ.R i) r v ∧ FolR c0 n (i + 1) (v.sR (upd v.R i r)) u
theorem FolR.kept {c0 : Nat} : ∀ {n k : Nat} {σ u : nSt}, FolR c0 n k σ u → u.F 2 = σ.F 2 ∧ u.N = σ.N ∧ u.hx = σ.hx ∧ u.F 1 = σ.F 1 ∧ u.F 3 = σ.F 3
  | 0, _, _, _, h => by cases h; exact ⟨rfl, rfl, rfl, rfl, rfl⟩
  | n + 1, k, σ, u, ⟨r, v, h1, h2⟩ => by
    have a := h1.kept
    have b := FolR.kept h2
    exact ⟨b.1.trans a.1, b.2.1.trans a.2.1, b.2.2.1.trans a.2.2.1, b.2.2.2.1.trans a.2.2.2.2.1, b.2.2.2.2.trans a.2.2.2.2.2⟩
/-- n old objects from k on -/
def FolO (c0 : Nat) : Nat → Nat → nSt → nSt → Prop
  | 0, _, σ, u => u = σ
  | n + 1, k, σ, u => ∃ (nf nw : Nat) (v : nSt), σ.X k = nI nf ∧ nf ≤ 200 ∧ nw ≤ 200 ∧ k + (3 + nf + nw) ≤ σ.N ∧ FolN c0 nf (k + 3) σ v ∧ v.X k = nI nf ∧ v.X (k + 1) = nI nw ∧ FolO c0 n (k + (3 + nf + nw)) v u
theorem FolO.kept {c0 : Nat} : ∀ {n k : Nat} {σ u : nSt}, FolO c0 n k σ u → u.F 2 = σ.F 2 ∧ u.N = σ.N ∧ u.hx = σ.hx ∧ u.R = σ.R ∧ u.F 1 = σ.F 1 ∧ u.F 3 = σ.F 3
  | 0, _, _, _, h => by cases h; exact ⟨rfl, rfl, rfl, rfl, rfl, rfl⟩
  | n + 1, k, σ, u, ⟨nf, nw, v, _, _, _, _, h1, _, _, h2⟩ => by
    have a := h1.kept
    have b := FolO.kept h2
    exact ⟨b.1.trans a.1, b.2.1.trans a.2.1, b.2.2.1.trans a.2.2.1, b.2.2.2.1.trans a.2.2.2.1, b.2.2.2.2.1.trans a.2.2.2.2.1, b.2.2.2.2.2.trans a.2.2.2.2.2⟩
/-- the copies from i on; n are still to come -/
def FolC (c0 : Nat) : Nat → Nat → nSt → nSt → Prop
  | 0, i, σ, u => i ≤ 512 ∧ σ.F 0 = nI i ∧ u = σ
  | n + 1, i, σ, u => ∃ (nc k nf : Nat) (v : nSt), σ.F 0 = nI nc ∧ i < nc ∧ nc ≤ 512 ∧ σ.C i = nI k ∧ σ.X k = nI nf ∧ nf ≤ 200 ∧ k + 3 + nf ≤ σ.N ∧ FolN c0 nf (k + 3) σ v ∧ FolC c0 n (i + 1) v u
theorem FolC.kept {c0 : Nat} : ∀ {n k : Nat} {σ u : nSt}, FolC c0 n k σ u → u.F 2 = σ.F 2 ∧ u.N = σ.N ∧ u.hx = σ.hx ∧ u.R = σ.R ∧ u.F 1 = σ.F 1 ∧ u.F 3 = σ.F 3
  | 0, _, _, _, ⟨_, _, h⟩ => by cases h; exact ⟨rfl, rfl, rfl, rfl, rfl, rfl⟩
  | n + 1, k, σ, u, ⟨nc, k', nf, v, _, _, _, _, _, _, _, h1, h2⟩ => by
    have a := h1.kept
    have b := FolC.kept h2
    exact ⟨b.1.trans a.1, b.2.1.trans a.2.1, b.2.2.1.trans a.2.2.1, b.2.2.2.1.trans a.2.2.2.1, b.2.2.2.2.1.trans a.2.2.2.2.1, b.2.2.2.2.2.trans a.2.2.2.2.2⟩
theorem rwI.of {σ u : nSt} {c0 : Nat} (h : rwI σ c0) (e : u.F 2 = σ.F 2) : rwI u c0 := by
  rcases h with ⟨h, rfl⟩ | ⟨h, rfl⟩
  · exact Or.inl ⟨e.trans h, rfl⟩
  · exact Or.inr ⟨e.trans h, rfl⟩
end
section
/-! THE CLASS, following -/
set_option maxHeartbeats 4000000 in
set_option maxRecDepth 100000 in
/-- what a root or field that tells x must tell -/
theorem qNr_follow (l : Launch) (D : va_G) (cI cP : ClassId) (a : Nat → Nat) (σ : nSt) (c0 : Nat) (x r0 : Int32) (u0 : nSt) (hF : Fol σ c0 x r0 u0) (hrw : rwI σ c0) (hN : σ.N < 2 ^ 31) : gx_Mi l yNr_follow (Cond.code yNr_follow cNr_follow 2 (some .int) :: gW) (gR 4) D gC (nrT cI cP) (nrW cI cP a) σ [.ref (a 0), .int x] (fun r u => r = r0 ∧ u = u0) := by
  refine gx_Mi.of (cc := cNr_follow) (maxL := 2) (ret := (some .int)) (by decide) rfl (Nat.le_of_ble_eq_true rfl) ?_
  intro p e s m args below meth c ls A E hA hK hP hD hS hl
  obtain ⟨hx, hb, hr, hml, hts, hown, hlocks, hnm⟩ := id E
  have hg : ∀ w ∈ gW, w.before args s = true := fun w h => hts w (List.mem_cons_of_mem _ h)
  have hown : s.vm.findClass "NurseryRow" = some m.cls := hown
  have hl : lv_has ls 2 [(0, .ref (a 0)), (1, .int x)] := hl
  rcases hF with ⟨hy, hr0, hu0⟩ | ⟨k, rfl, hkN, hy, hneg, hr0, hu0⟩ | ⟨k, nf, nw, f, us, nc, rfl, hy, hneg, hH, hage, hfree, hr0, hu0⟩ | ⟨k, nf, nw, f, us, nc, rfl, hy, hneg, hH, hst, hr0, hu0⟩
  · refine lv_aload_n hx hb dNr_follow_0 rfl (lv_at hl 0 rfl) ?_
    refine lv_iload_n hx hb dNr_follow_1 rfl (lv_at hl 1 rfl) ?_
    refine gx_callp (C := "NurseryRow") (As := [.int x]) (rest := []) E (qNr_isYoung l D cI cP a σ c0 x hrw) (gx_cwV hts l_Nr_173 k_Nr_isYoung ki_Nr_isYoung ke_Nr_isYoung z_Nr n_Nr_isYoung ⟨by decide, by decide⟩) hK hP hD (va_recv hK hP (ci := 1) (q0 := 0) rfl rfl) hl.1 rfl rfl (Nat.le_of_ble_eq_true rfl) ⟨Nat.zero_le _, Nat.zero_le _⟩ dNr_follow_2 ?_
    refine lv_if_ne (tgt := 10) hx hb dNr_follow_5 (by decide) (fun c_5 => ?_) (fun c_5 => ?_)
    · exact absurd c_5 (not_not_intro hy)
    · refine lv_iload_n hx hb dNr_follow_8 rfl (lv_at hl 1 rfl) ?_
      exact gx_iret (u := σ) E hK hP hD hS ⟨hr0.symm, hu0.symm⟩ dNr_follow_9
  · refine lv_aload_n hx hb dNr_follow_0 rfl (lv_at hl 0 rfl) ?_
    refine lv_iload_n hx hb dNr_follow_1 rfl (lv_at hl 1 rfl) ?_
    refine gx_callp (C := "NurseryRow") (As := [.int (nI k)]) (rest := []) E (qNr_isYoung l D cI cP a σ c0 (nI k) hrw) (gx_cwV hts l_Nr_173 k_Nr_isYoung ki_Nr_isYoung ke_Nr_isYoung z_Nr n_Nr_isYoung ⟨by decide, by decide⟩) hK hP hD (va_recv hK hP (ci := 1) (q0 := 0) rfl rfl) hl.1 rfl rfl (Nat.le_of_ble_eq_true rfl) ⟨Nat.zero_le _, Nat.zero_le _⟩ dNr_follow_2 ?_
    refine lv_if_ne (tgt := 10) hx hb dNr_follow_5 (by decide) (fun c_5 => ?_) (fun c_5 => ?_)
    · refine lv_aload_n hx hb dNr_follow_10 rfl (lv_at hl 0 rfl) ?_
      refine va_get (C := RNr) (T := TNr) (N := 10) (ci := 1) (v := .ref σ.hx) hx hb hg inNr hown hK hP 0 rfl rfl 3 (by decide) (hg _ f_Nr_23) (fun _ h9 => h9) rfl dNr_follow_11 ?_
      refine lv_iload_n hx hb dNr_follow_14 rfl (lv_at hl 1 rfl) ?_
      refine va_iald hx hb hK hP 8 0 rfl rfl (vp_in_nI hkN hN) dNr_follow_15 ?_
      refine gx_top (z := σ.X k) (congrArg _ (nI_clamp (show k < 2 ^ 31 by omega))) ?_
      refine lv_if_ge (tgt := 29) hx hb dNr_follow_16 (by decide) (fun c_16 => ?_) (fun c_16 => ?_)
      · exact absurd c_16 (Int32.not_le.mpr hneg)
      · refine lv_aload_n hx hb dNr_follow_19 rfl (lv_at hl 0 rfl) ?_
        refine va_get (C := RNr) (T := TNr) (N := 10) (ci := 1) (v := .ref σ.hx) hx hb hg inNr hown hK hP 0 rfl rfl 3 (by decide) (hg _ f_Nr_23) (fun _ h9 => h9) rfl dNr_follow_20 ?_
        refine lv_iload_n hx hb dNr_follow_23 rfl (lv_at hl 1 rfl) ?_
        refine va_iald hx hb hK hP 8 0 rfl rfl (vp_in_nI hkN hN) dNr_follow_24 ?_
        refine gx_top (z := σ.X k) (congrArg _ (nI_clamp (show k < 2 ^ 31 by omega))) ?_
        refine lv_ineg hx hb dNr_follow_25 ?_
        refine lv_goto (tgt := 34) hx hb dNr_follow_26 (by decide) ?_
        exact gx_iret (u := σ) E hK hP hD hS ⟨hr0.symm, hu0.symm⟩ dNr_follow_34
    · exact absurd c_5 hy
  · have hN0 := hH
    obtain ⟨hX0, hX1, hnf, hnw, hk, hPf, hPu, hb2, hnc, hF0⟩ := hH
    refine lv_aload_n hx hb dNr_follow_0 rfl (lv_at hl 0 rfl) ?_
    refine lv_iload_n hx hb dNr_follow_1 rfl (lv_at hl 1 rfl) ?_
    refine gx_callp (C := "NurseryRow") (As := [.int (nI k)]) (rest := []) E (qNr_isYoung l D cI cP a σ c0 (nI k) hrw) (gx_cwV hts l_Nr_173 k_Nr_isYoung ki_Nr_isYoung ke_Nr_isYoung z_Nr n_Nr_isYoung ⟨by decide, by decide⟩) hK hP hD (va_recv hK hP (ci := 1) (q0 := 0) rfl rfl) hl.1 rfl rfl (Nat.le_of_ble_eq_true rfl) ⟨Nat.zero_le _, Nat.zero_le _⟩ dNr_follow_2 ?_
    refine lv_if_ne (tgt := 10) hx hb dNr_follow_5 (by decide) (fun c_5 => ?_) (fun c_5 => ?_)
    · refine lv_aload_n hx hb dNr_follow_10 rfl (lv_at hl 0 rfl) ?_
      refine va_get (C := RNr) (T := TNr) (N := 10) (ci := 1) (v := .ref σ.hx) hx hb hg inNr hown hK hP 0 rfl rfl 3 (by decide) (hg _ f_Nr_23) (fun _ h9 => h9) rfl dNr_follow_11 ?_
      refine lv_iload_n hx hb dNr_follow_14 rfl (lv_at hl 1 rfl) ?_
      refine va_iald hx hb hK hP 8 0 rfl rfl (vp_in_nI (show k < σ.N by omega) hN) dNr_follow_15 ?_
      refine gx_top (z := σ.X k) (congrArg _ (nI_clamp (show k < 2 ^ 31 by omega))) ?_
      refine lv_if_ge (tgt := 29) hx hb dNr_follow_16 (by decide) (fun c_16 => ?_) (fun c_16 => ?_)
      · refine lv_aload_n hx hb dNr_follow_29 rfl (lv_at hl 0 rfl) ?_
        refine lv_iload_n hx hb dNr_follow_30 rfl (lv_at hl 1 rfl) ?_
        refine gx_calli (C := "NurseryRow") (As := [.int (nI k)]) (rest := []) E (qNr_copyOfR l D cI cP a σ (2 - c0) k nf nw f us nc hX0 hX1 hnf hnw hk hN hPf hPu hb2 hnc hF0 hrw.j hage hfree) (gx_cwV hts l_Nr_176 k_Nr_copyOf ki_Nr_copyOf ke_Nr_copyOf z_Nr n_Nr_copyOf ⟨by decide, by decide⟩) hK hP hD hS hA (va_recv hK hP (ci := 1) (q0 := 0) rfl rfl) hl.1 rfl rfl (Nat.le_of_ble_eq_true rfl) ⟨by decide, by decide⟩ dNr_follow_31 (fun r_1 u_2 H locs hq_3 hP hD hS => ?_)
        obtain ⟨hr1, hu1⟩ := hq_3
        subst hr1; subst hu1
        have hP : va_P D gC (nrW cI cP a (cpR σ (2 - c0) k (3 + nf + nw) (f + us) nc)) H := hP
        have hD : va_D A (nrW cI cP a (cpR σ (2 - c0) k (3 + nf + nw) (f + us) nc)) := hD
        exact gx_iret (u := cpR σ (2 - c0) k (3 + nf + nw) (f + us) nc) E hK hP hD hS ⟨hr0.symm, hu0.symm⟩ dNr_follow_34
      · exact absurd c_16 (not_not_intro (Int32.not_lt.mp hneg))
    · exact absurd c_5 hy
  · obtain ⟨hX0, hX1, hnf, hnw, hk, hPf, hPu, hb2, hnc, hF0⟩ := hH
    refine lv_aload_n hx hb dNr_follow_0 rfl (lv_at hl 0 rfl) ?_
    refine lv_iload_n hx hb dNr_follow_1 rfl (lv_at hl 1 rfl) ?_
    refine gx_callp (C := "NurseryRow") (As := [.int (nI k)]) (rest := []) E (qNr_isYoung l D cI cP a σ c0 (nI k) hrw) (gx_cwV hts l_Nr_173 k_Nr_isYoung ki_Nr_isYoung ke_Nr_isYoung z_Nr n_Nr_isYoung ⟨by decide, by decide⟩) hK hP hD (va_recv hK hP (ci := 1) (q0 := 0) rfl rfl) hl.1 rfl rfl (Nat.le_of_ble_eq_true rfl) ⟨Nat.zero_le _, Nat.zero_le _⟩ dNr_follow_2 ?_
    refine lv_if_ne (tgt := 10) hx hb dNr_follow_5 (by decide) (fun c_5 => ?_) (fun c_5 => ?_)
    · refine lv_aload_n hx hb dNr_follow_10 rfl (lv_at hl 0 rfl) ?_
      refine va_get (C := RNr) (T := TNr) (N := 10) (ci := 1) (v := .ref σ.hx) hx hb hg inNr hown hK hP 0 rfl rfl 3 (by decide) (hg _ f_Nr_23) (fun _ h9 => h9) rfl dNr_follow_11 ?_
      refine lv_iload_n hx hb dNr_follow_14 rfl (lv_at hl 1 rfl) ?_
      refine va_iald hx hb hK hP 8 0 rfl rfl (vp_in_nI (show k < σ.N by omega) hN) dNr_follow_15 ?_
      refine gx_top (z := σ.X k) (congrArg _ (nI_clamp (show k < 2 ^ 31 by omega))) ?_
      refine lv_if_ge (tgt := 29) hx hb dNr_follow_16 (by decide) (fun c_16 => ?_) (fun c_16 => ?_)
      · refine lv_aload_n hx hb dNr_follow_29 rfl (lv_at hl 0 rfl) ?_
        refine lv_iload_n hx hb dNr_follow_30 rfl (lv_at hl 1 rfl) ?_
        refine gx_calli (C := "NurseryRow") (As := [.int (nI k)]) (rest := []) E (qNr_copyOfO l D cI cP a σ (2 - c0) k nf nw f us nc hX0 hX1 hnf hnw hk hN hPf hPu hb2 hnc hF0 hrw.j hst) (gx_cwV hts l_Nr_176 k_Nr_copyOf ki_Nr_copyOf ke_Nr_copyOf z_Nr n_Nr_copyOf ⟨by decide, by decide⟩) hK hP hD hS hA (va_recv hK hP (ci := 1) (q0 := 0) rfl rfl) hl.1 rfl rfl (Nat.le_of_ble_eq_true rfl) ⟨by decide, by decide⟩ dNr_follow_31 (fun r_4 u_5 H locs hq_6 hP hD hS => ?_)
        obtain ⟨hr1, hu1⟩ := hq_6
        subst hr1; subst hu1
        have hP : va_P D gC (nrW cI cP a (cpO σ k (3 + nf + nw) (f + us) nc)) H := hP
        have hD : va_D A (nrW cI cP a (cpO σ k (3 + nf + nw) (f + us) nc)) := hD
        exact gx_iret (u := cpO σ k (3 + nf + nw) (f + us) nc) E hK hP hD hS ⟨hr0.symm, hu0.symm⟩ dNr_follow_34
      · exact absurd c_16 (not_not_intro (Int32.not_lt.mp hneg))
    · exact absurd c_5 hy
set_option maxHeartbeats 4000000 in
set_option maxRecDepth 100000 in
/-- an object's fields -/
theorem qNr_followFields (l : Launch) (D : va_G) (cI cP : ClassId) (a : Nat → Nat) (σ : nSt) (c0 k nf : Nat) (u0 : nSt) (hX0 : σ.X k = nI nf) (hnf : nf ≤ 200) (hk : k + 3 + nf ≤ σ.N) (hev : FolN c0 nf (k + 3) σ u0) (hrw : rwI σ c0) (hN : σ.N < 2 ^ 31) : gx_Mv l yNr_followFields (Cond.code yNr_followFields cNr_followFields 4 none :: gW) (gR 5) D gC (nrT cI cP) (nrW cI cP a) σ [.ref (a 0), .int (nI k)] (fun u => u = u0) := by
  refine gx_Mv.of (cc := cNr_followFields) (maxL := 4) (by decide) rfl (Nat.le_of_ble_eq_true rfl) ?_
  intro p e s m args below meth c ls A E hA hK hP hD hS hl
  obtain ⟨hx, hb, hr, hml, hts, hown, hlocks, hnm⟩ := id E
  have hg : ∀ w ∈ gW, w.before args s = true := fun w h => hts w (List.mem_cons_of_mem _ h)
  have hown : s.vm.findClass "NurseryRow" = some m.cls := hown
  have hl : lv_has ls 4 [(0, .ref (a 0)), (1, .int (nI k))] := hl
  refine lv_iload_n hx hb dNr_followFields_0 rfl (lv_at hl 1 rfl) ?_
  refine lv_iconst (v := 3) hx hb dNr_followFields_1 (by decide) ?_
  refine lv_iadd hx hb dNr_followFields_2 ?_
  refine gx_top (z := nI (k + 3)) (by rw [show (3 : Int32) = nI 3 from rfl, nI_add]) ?_
  refine lv_aload_n hx hb dNr_followFields_3 rfl (lv_at hl 0 rfl) ?_
  refine va_get (C := RNr) (T := TNr) (N := 10) (ci := 1) (v := .ref σ.hx) hx hb hg inNr hown hK hP 0 rfl rfl 3 (by decide) (hg _ f_Nr_23) (fun _ h9 => h9) rfl dNr_followFields_4 ?_
  refine lv_iload_n hx hb dNr_followFields_7 rfl (lv_at hl 1 rfl) ?_
  refine va_iald hx hb hK hP 8 0 rfl rfl (vp_in_nI (show k < σ.N by omega) hN) dNr_followFields_8 ?_
  refine gx_top (z := σ.X k) (congrArg _ (nI_clamp (show k < 2 ^ 31 by omega))) ?_
  refine lv_iadd hx hb dNr_followFields_9 ?_
  refine gx_top (z := nI (k + 3 + nf)) (by rw [hX0, nI_add]) ?_
  refine lv_istore_n (lv' := [(2, .int (nI (k + 3 + nf))), (0, .ref (a 0)), (1, .int (nI k))]) hx hb dNr_followFields_10 rfl hl (by decide) rfl (fun ls hl => ?_)
  refine lv_iload_n hx hb dNr_followFields_11 rfl (lv_at hl 2 rfl) ?_
  refine lv_iconst (v := 3) hx hb dNr_followFields_12 (by decide) ?_
  refine lv_iadd hx hb dNr_followFields_13 ?_
  refine gx_top (z := nI (k + 3)) (by rw [show (3 : Int32) = nI 3 from rfl, nI_add]) ?_
  refine lv_istore_n (lv' := [(3, .int (nI (k + 3))), (2, .int (nI (k + 3 + nf))), (0, .ref (a 0)), (1, .int (nI k))]) hx hb dNr_followFields_14 rfl hl (by decide) rfl (fun ls hl => ?_)
  have key : ∀ (n t : Nat) (τ : nSt) (H : Heap) (locs : List Loc) (ls : Array Slot), t + n = k + 3 + nf → FolN c0 n t τ u0 → rwI τ c0 → τ.N = σ.N → va_P D gC (nrW cI cP a τ) H → va_D A (nrW cI cP a τ) → va_S A s.heap H locs → lv_has ls 4 [(0, .ref (a 0)), (1, .int (nI k)), (2, .int (nI (k + 3 + nf))), (3, .int (nI t))] → W p l e (gR 5) s m args below meth c H locs 0 0 (MQ below (va_Qv (fun u => u = u0) (gx_B D gC (nrT cI cP) (nrW cI cP a) A) A) args s 0 0 A) (F0 m 15 ls []) := by
    intro n
    induction n with
    | zero =>
      intro t τ H locs ls hte hev hrw hNe hP hD hS hl
      have hev : u0 = τ := hev
      refine lv_iload_n hx hb dNr_followFields_15 rfl (lv_at hl 3 rfl) ?_
      refine lv_iload_n hx hb dNr_followFields_16 rfl (lv_at hl 2 rfl) ?_
      refine lv_icmp_ge (tgt := 42) hx hb dNr_followFields_17 (by decide) (fun c_17 => ?_) (fun c_17 => ?_)
      · exact gx_vret (u := τ) E hK hP hD hS hev.symm dNr_followFields_42
      · exact absurd c_17 (not_not_intro (nI_le (by omega) (by omega)))
    | succ n ih =>
      intro t τ H locs ls hte hev hrw hNe hP hD hS hl
      refine lv_iload_n hx hb dNr_followFields_15 rfl (lv_at hl 3 rfl) ?_
      refine lv_iload_n hx hb dNr_followFields_16 rfl (lv_at hl 2 rfl) ?_
      refine lv_icmp_ge (tgt := 42) hx hb dNr_followFields_17 (by decide) (fun c_17 => ?_) (fun c_17 => ?_)
      · exact absurd c_17 (nI_ge (by omega) (by omega))
      · refine lv_aload_n hx hb dNr_followFields_20 rfl (lv_at hl 0 rfl) ?_
        refine va_get (C := RNr) (T := TNr) (N := 10) (ci := 1) (v := .ref τ.hx) hx hb hg inNr hown hK hP 0 rfl rfl 3 (by decide) (hg _ f_Nr_23) (fun _ h9 => h9) rfl dNr_followFields_21 ?_
        refine lv_iload_n hx hb dNr_followFields_24 rfl (lv_at hl 3 rfl) ?_
        refine lv_aload_n hx hb dNr_followFields_25 rfl (lv_at hl 0 rfl) ?_
        refine lv_aload_n hx hb dNr_followFields_26 rfl (lv_at hl 0 rfl) ?_
        refine va_get (C := RNr) (T := TNr) (N := 10) (ci := 1) (v := .ref τ.hx) hx hb hg inNr hown hK hP 0 rfl rfl 3 (by decide) (hg _ f_Nr_23) (fun _ h9 => h9) rfl dNr_followFields_27 ?_
        refine lv_iload_n hx hb dNr_followFields_30 rfl (lv_at hl 3 rfl) ?_
        refine va_iald hx hb hK hP 8 0 rfl rfl (vp_in_nI (show t < τ.N by omega) (by omega)) dNr_followFields_31 ?_
        refine gx_top (z := τ.X t) (congrArg _ (nI_clamp (show t < 2 ^ 31 by omega))) ?_
        obtain ⟨r, v, hkN, hfo, hev⟩ := hev
        have hkp := hfo.kept
        refine gx_calli (C := "NurseryRow") (As := [.int (τ.X t)]) (rest := [.int (nI t), .ref τ.hx]) E (qNr_follow l D cI cP a τ c0 (τ.X t) r v hfo hrw (by omega)) (gx_cwV hts l_Nr_167 k_Nr_follow ki_Nr_follow ke_Nr_follow z_Nr n_Nr_follow ⟨by decide, by decide⟩) hK hP hD hS hA (va_recv hK hP (ci := 1) (q0 := 0) rfl rfl) hl.1 rfl rfl (Nat.le_of_ble_eq_true rfl) ⟨by decide, by decide⟩ dNr_followFields_32 (fun r_1 u_2 H locs hq_3 hP hD hS => ?_)
        obtain ⟨hr1, hu1⟩ := hq_3
        subst hr1; subst hu1
        refine gx_stk (st' := [.int r_1, .int (nI t), .ref u_2.hx]) (by rw [hkp.2.2.1]) ?_
        refine va_iast hx hb hK hP hD hS 8 0 rfl rfl (vp_in_nI (show t < u_2.N by rw [hkp.2.1]; exact hkN) (by omega)) dNr_followFields_35 (fun H locs hP hD hS => ?_)
        rw [nI_clamp (show t < 2 ^ 31 by omega)] at hP hD
        have hP : va_P D gC (nrW cI cP a (u_2.sX (upd u_2.X t r_1))) H := hP
        have hD : va_D A (nrW cI cP a (u_2.sX (upd u_2.X t r_1))) := hD
        refine lv_iinc (v := nI (t + 1)) (lv' := [(3, .int (nI (t + 1))), (0, .ref (a 0)), (1, .int (nI k)), (2, .int (nI (k + 3 + nf)))]) hx hb dNr_followFields_36 hl (k := 3) rfl (by rw [← nI_1]; rfl) (by decide) rfl (fun ls hl => ?_)
        refine lv_goto (tgt := 15) hx hb dNr_followFields_39 (by decide) ?_
        exact ih (t + 1) _ H locs ls (by omega) hev (hrw.of hkp.1) (hkp.2.1.trans hNe) hP hD hS (lv_sub hl [1, 2, 3, 0] rfl)
  exact key nf (k + 3) σ _ _ ls rfl hev hrw rfl hP hD hS (lv_sub hl [2, 3, 1, 0] rfl)
set_option maxHeartbeats 4000000 in
set_option maxRecDepth 100000 in
/-- the roots -/
theorem qNr_followRoots (l : Launch) (D : va_G) (cI cP : ClassId) (a : Nat → Nat) (σ : nSt) (c0 : Nat) (u0 : nSt) (hev : FolR c0 16 0 σ u0) (hrw : rwI σ c0) (hN : σ.N < 2 ^ 31) : gx_Mv l yNr_followRoots (Cond.code yNr_followRoots cNr_followRoots 2 none :: gW) (gR 5) D gC (nrT cI cP) (nrW cI cP a) σ [.ref (a 0)] (fun u => u = u0) := by
  refine gx_Mv.of (cc := cNr_followRoots) (maxL := 2) (by decide) rfl (Nat.le_of_ble_eq_true rfl) ?_
  intro p e s m args below meth c ls A E hA hK hP hD hS hl
  obtain ⟨hx, hb, hr, hml, hts, hown, hlocks, hnm⟩ := id E
  have hg : ∀ w ∈ gW, w.before args s = true := fun w h => hts w (List.mem_cons_of_mem _ h)
  have hown : s.vm.findClass "NurseryRow" = some m.cls := hown
  have hl : lv_has ls 2 [(0, .ref (a 0))] := hl
  refine lv_iconst (v := 0) hx hb dNr_followRoots_0 (by decide) ?_
  refine lv_istore_n (lv' := [(1, .int 0), (0, .ref (a 0))]) hx hb dNr_followRoots_1 rfl hl (by decide) rfl (fun ls hl => ?_)
  have key : ∀ (n t : Nat) (τ : nSt) (H : Heap) (locs : List Loc) (ls : Array Slot), t + n = 16 → FolR c0 n t τ u0 → rwI τ c0 → τ.N = σ.N → va_P D gC (nrW cI cP a τ) H → va_D A (nrW cI cP a τ) → va_S A s.heap H locs → lv_has ls 2 [(0, .ref (a 0)), (1, .int (nI t))] → W p l e (gR 5) s m args below meth c H locs 0 0 (MQ below (va_Qv (fun u => u = u0) (gx_B D gC (nrT cI cP) (nrW cI cP a) A) A) args s 0 0 A) (F0 m 2 ls []) := by
    intro n
    induction n with
    | zero =>
      intro t τ H locs ls hte hev hrw hNe hP hD hS hl
      have hev : u0 = τ := hev
      refine lv_iload_n hx hb dNr_followRoots_2 rfl (lv_at hl 1 rfl) ?_
      refine lv_bipush (v := 16) hx hb dNr_followRoots_3 (by decide) ?_
      refine lv_icmp_ge (tgt := 30) hx hb dNr_followRoots_5 (by decide) (fun c_5 => ?_) (fun c_5 => ?_)
      · exact gx_vret (u := τ) E hK hP hD hS hev.symm dNr_followRoots_30
      · exact absurd c_5 (not_not_intro (nI_le (b := t) (a := 16) (by omega) (by omega)))
    | succ n ih =>
      intro t τ H locs ls hte hev hrw hNe hP hD hS hl
      refine lv_iload_n hx hb dNr_followRoots_2 rfl (lv_at hl 1 rfl) ?_
      refine lv_bipush (v := 16) hx hb dNr_followRoots_3 (by decide) ?_
      refine lv_icmp_ge (tgt := 30) hx hb dNr_followRoots_5 (by decide) (fun c_5 => ?_) (fun c_5 => ?_)
      · exact absurd c_5 (nI_ge (b := 16) (by omega) (by omega))
      · refine lv_aload_n hx hb dNr_followRoots_8 rfl (lv_at hl 0 rfl) ?_
        refine va_get (C := RNr) (T := TNr) (N := 10) (ci := 1) (v := .ref (a 6)) hx hb hg inNr hown hK hP 0 rfl rfl 1 (by decide) (hg _ f_Nr_16) (fun _ h9 => h9) rfl dNr_followRoots_9 ?_
        refine lv_iload_n hx hb dNr_followRoots_12 rfl (lv_at hl 1 rfl) ?_
        refine lv_aload_n hx hb dNr_followRoots_13 rfl (lv_at hl 0 rfl) ?_
        refine lv_aload_n hx hb dNr_followRoots_14 rfl (lv_at hl 0 rfl) ?_
        refine va_get (C := RNr) (T := TNr) (N := 10) (ci := 1) (v := .ref (a 6)) hx hb hg inNr hown hK hP 0 rfl rfl 1 (by decide) (hg _ f_Nr_16) (fun _ h9 => h9) rfl dNr_followRoots_15 ?_
        refine lv_iload_n hx hb dNr_followRoots_18 rfl (lv_at hl 1 rfl) ?_
        refine va_iald hx hb hK hP 6 0 rfl rfl (vp_in_nI (show t < 16 by omega) (by omega)) dNr_followRoots_19 ?_
        refine gx_top (z := τ.R t) (congrArg _ (nI_clamp (show t < 2 ^ 31 by omega))) ?_
        obtain ⟨r, v, hfo, hev⟩ := hev
        have hkp := hfo.kept
        refine gx_calli (C := "NurseryRow") (As := [.int (τ.R t)]) (rest := [.int (nI t), .ref (a 6)]) E (qNr_follow l D cI cP a τ c0 (τ.R t) r v hfo hrw (by omega)) (gx_cwV hts l_Nr_167 k_Nr_follow ki_Nr_follow ke_Nr_follow z_Nr n_Nr_follow ⟨by decide, by decide⟩) hK hP hD hS hA (va_recv hK hP (ci := 1) (q0 := 0) rfl rfl) hl.1 rfl rfl (Nat.le_of_ble_eq_true rfl) ⟨by decide, by decide⟩ dNr_followRoots_20 (fun r_1 u_2 H locs hq_3 hP hD hS => ?_)
        obtain ⟨hr1, hu1⟩ := hq_3
        subst hr1; subst hu1
        refine va_iast hx hb hK hP hD hS 6 0 rfl rfl (vp_in_nI (show t < 16 by omega) (by omega)) dNr_followRoots_23 (fun H locs hP hD hS => ?_)
        rw [nI_clamp (show t < 2 ^ 31 by omega)] at hP hD
        have hP : va_P D gC (nrW cI cP a (u_2.sR (upd u_2.R t r_1))) H := hP
        have hD : va_D A (nrW cI cP a (u_2.sR (upd u_2.R t r_1))) := hD
        refine lv_iinc (v := nI (t + 1)) (lv' := [(1, .int (nI (t + 1))), (0, .ref (a 0))]) hx hb dNr_followRoots_24 hl (k := 1) rfl (by rw [← nI_1]; rfl) (by decide) rfl (fun ls hl => ?_)
        refine lv_goto (tgt := 2) hx hb dNr_followRoots_27 (by decide) ?_
        exact ih (t + 1) _ H locs ls (by omega) hev (hrw.of hkp.1) (hkp.2.1.trans hNe) hP hD hS (lv_sub hl [1, 0] rfl)
  exact key 16 0 σ _ _ ls rfl hev hrw rfl hP hD hS (lv_sub hl [1, 0] rfl)
set_option maxHeartbeats 4000000 in
set_option maxRecDepth 100000 in
/-- the old ones -/
theorem qNr_followOld (l : Launch) (D : va_G) (cI cP : ClassId) (a : Nat → Nat) (σ : nSt) (c0 n0 k0 : Nat) (u0 : nSt) (hn0 : n0 < 2 ^ 31) (hP3 : σ.P 3 0 = nI k0) (hev : FolO c0 n0 k0 σ u0) (hrw : rwI σ c0) (hN : σ.N < 2 ^ 31) : gx_Mv l yNr_followOld (Cond.code yNr_followOld cNr_followOld 4 none :: gW) (gR 6) D gC (nrT cI cP) (nrW cI cP a) σ [.ref (a 0), .int (nI n0)] (fun u => u = u0) := by
  refine gx_Mv.of (cc := cNr_followOld) (maxL := 4) (by decide) rfl (Nat.le_of_ble_eq_true rfl) ?_
  intro p e s m args below meth c ls A E hA hK hP hD hS hl
  obtain ⟨hx, hb, hr, hml, hts, hown, hlocks, hnm⟩ := id E
  have hg : ∀ w ∈ gW, w.before args s = true := fun w h => hts w (List.mem_cons_of_mem _ h)
  have hown : s.vm.findClass "NurseryRow" = some m.cls := hown
  have hl : lv_has ls 4 [(0, .ref (a 0)), (1, .int (nI n0))] := hl
  refine lv_aload_n hx hb dNr_followOld_0 rfl (lv_at hl 0 rfl) ?_
  refine va_get (C := RNr) (T := TNr) (N := 10) (ci := 1) (v := .ref (a 1)) hx hb hg inNr hown hK hP 0 rfl rfl 0 (by decide) (hg _ f_Nr_11) (fun _ h9 => h9) rfl dNr_followOld_1 ?_
  refine lv_iconst (v := 3) hx hb dNr_followOld_4 (by decide) ?_
  refine va_aldq hx hb hK hP 1 1 rfl rfl (by unfold vp_in; decide) dNr_followOld_5 ?_
  refine gx_stk (st' := [.ref (a (2 + 3))]) rfl ?_
  refine va_get (C := RPt) (T := TPt) (N := 4) (ci := 0) (v := .int (σ.P 3 0)) hx hb hg inPt hown hK hP 5 rfl rfl 0 (by decide) (hg _ f_Nr_164) (fun _ h9 => h9) rfl dNr_followOld_6 ?_
  refine gx_top (z := nI k0) hP3 ?_
  refine lv_istore_n (lv' := [(2, .int (nI k0)), (0, .ref (a 0)), (1, .int (nI n0))]) hx hb dNr_followOld_9 rfl hl (by decide) rfl (fun ls hl => ?_)
  refine lv_iconst (v := 0) hx hb dNr_followOld_10 (by decide) ?_
  refine lv_istore_n (lv' := [(3, .int 0), (2, .int (nI k0)), (0, .ref (a 0)), (1, .int (nI n0))]) hx hb dNr_followOld_11 rfl hl (by decide) rfl (fun ls hl => ?_)
  have key : ∀ (n j t : Nat) (τ : nSt) (H : Heap) (locs : List Loc) (ls : Array Slot), j + n = n0 → FolO c0 n t τ u0 → rwI τ c0 → τ.N = σ.N → va_P D gC (nrW cI cP a τ) H → va_D A (nrW cI cP a τ) → va_S A s.heap H locs → lv_has ls 4 [(0, .ref (a 0)), (1, .int (nI n0)), (2, .int (nI t)), (3, .int (nI j))] → W p l e (gR 6) s m args below meth c H locs 0 0 (MQ below (va_Qv (fun u => u = u0) (gx_B D gC (nrT cI cP) (nrW cI cP a) A) A) args s 0 0 A) (F0 m 12 ls []) := by
    intro n
    induction n with
    | zero =>
      intro j t τ H locs ls hte hev hrw hNe hP hD hS hl
      have hev : u0 = τ := hev
      refine lv_iload_n hx hb dNr_followOld_12 rfl (lv_at hl 3 rfl) ?_
      refine lv_iload_n hx hb dNr_followOld_13 rfl (lv_at hl 1 rfl) ?_
      refine lv_icmp_ge (tgt := 36) hx hb dNr_followOld_14 (by decide) (fun c_14 => ?_) (fun c_14 => ?_)
      · exact gx_vret (u := τ) E hK hP hD hS hev.symm dNr_followOld_36
      · exact absurd c_14 (not_not_intro (nI_le (by omega) (by omega)))
    | succ n ih =>
      intro j t τ H locs ls hte hev hrw hNe hP hD hS hl
      refine lv_iload_n hx hb dNr_followOld_12 rfl (lv_at hl 3 rfl) ?_
      refine lv_iload_n hx hb dNr_followOld_13 rfl (lv_at hl 1 rfl) ?_
      refine lv_icmp_ge (tgt := 36) hx hb dNr_followOld_14 (by decide) (fun c_14 => ?_) (fun c_14 => ?_)
      · exact absurd c_14 (nI_ge (by omega) (by omega))
      · refine lv_aload_n hx hb dNr_followOld_17 rfl (lv_at hl 0 rfl) ?_
        refine lv_iload_n hx hb dNr_followOld_18 rfl (lv_at hl 2 rfl) ?_
        obtain ⟨nf, nw, v, e0, hf, hw, hkN, hfo, e1, e2, hev⟩ := hev
        have hkp := hfo.kept
        have hvN := hkp.2.1
        refine gx_callv (C := "NurseryRow") (As := [.int (nI t)]) (rest := []) E (qNr_followFields l D cI cP a τ c0 t nf v e0 hf (by omega) hfo hrw (by omega)) (gx_cwV hts l_Nr_170 k_Nr_followFields ki_Nr_followFields ke_Nr_followFields z_Nr n_Nr_followFields ⟨by decide, by decide⟩) hK hP hD hS hA (va_recv hK hP (ci := 1) (q0 := 0) rfl rfl) hl.1 rfl rfl (Nat.le_of_ble_eq_true rfl) ⟨by decide, by decide⟩ dNr_followOld_19 (fun u_2 H locs hq_3 hP hD hS => ?_)
        subst hq_3
        refine lv_iload_n hx hb dNr_followOld_22 rfl (lv_at hl 2 rfl) ?_
        refine lv_aload_n hx hb dNr_followOld_23 rfl (lv_at hl 0 rfl) ?_
        refine lv_iload_n hx hb dNr_followOld_24 rfl (lv_at hl 2 rfl) ?_
        refine gx_callp (C := "NurseryRow") (As := [.int (nI t)]) (rest := [.int (nI t)]) E (qNr_sizeAt l D cI cP a u_2 t (by omega) (by omega)) (gx_cwV hts l_Nr_150 k_Nr_sizeAt ki_Nr_sizeAt ke_Nr_sizeAt z_Nr n_Nr_sizeAt ⟨by decide, by decide⟩) hK hP hD (va_recv hK hP (ci := 1) (q0 := 0) rfl rfl) hl.1 rfl rfl (Nat.le_of_ble_eq_true rfl) ⟨Nat.zero_le _, Nat.zero_le _⟩ dNr_followOld_25 ?_
        refine lv_iadd hx hb dNr_followOld_28 ?_
        refine gx_top (z := nI (t + (3 + nf + nw))) (by rw [e1, e2, show (3 : Int32) = nI 3 from rfl, nI_add, nI_add, nI_add]) ?_
        refine lv_istore_n (lv' := [(2, .int (nI (t + (3 + nf + nw)))), (0, .ref (a 0)), (1, .int (nI n0)), (3, .int (nI j))]) hx hb dNr_followOld_29 rfl hl (by decide) rfl (fun ls hl => ?_)
        refine lv_iinc (v := nI (j + 1)) (lv' := [(3, .int (nI (j + 1))), (2, .int (nI (t + (3 + nf + nw)))), (0, .ref (a 0)), (1, .int (nI n0))]) hx hb dNr_followOld_30 hl (k := 3) rfl (by rw [← nI_1]; rfl) (by decide) rfl (fun ls hl => ?_)
        refine lv_goto (tgt := 12) hx hb dNr_followOld_33 (by decide) ?_
        exact ih (j + 1) _ _ H locs ls (by omega) hev (hrw.of hkp.1) (hkp.2.1.trans hNe) hP hD hS (lv_sub hl [2, 3, 1, 0] rfl)
  exact key n0 0 k0 σ _ _ ls (Nat.zero_add _) hev hrw rfl hP hD hS (lv_sub hl [2, 3, 1, 0] rfl)
set_option maxHeartbeats 4000000 in
set_option maxRecDepth 100000 in
/-- the copies -/
theorem qNr_followCopies (l : Launch) (D : va_G) (cI cP : ClassId) (a : Nat → Nat) (σ : nSt) (c0 n0 : Nat) (u0 : nSt) (hev : FolC c0 n0 0 σ u0) (hrw : rwI σ c0) (hN : σ.N < 2 ^ 31) : gx_Mv l yNr_followCopies (Cond.code yNr_followCopies cNr_followCopies 2 none :: gW) (gR 6) D gC (nrT cI cP) (nrW cI cP a) σ [.ref (a 0)] (fun u => u = u0) := by
  refine gx_Mv.of (cc := cNr_followCopies) (maxL := 2) (by decide) rfl (Nat.le_of_ble_eq_true rfl) ?_
  intro p e s m args below meth c ls A E hA hK hP hD hS hl
  obtain ⟨hx, hb, hr, hml, hts, hown, hlocks, hnm⟩ := id E
  have hg : ∀ w ∈ gW, w.before args s = true := fun w h => hts w (List.mem_cons_of_mem _ h)
  have hown : s.vm.findClass "NurseryRow" = some m.cls := hown
  have hl : lv_has ls 2 [(0, .ref (a 0))] := hl
  refine lv_iconst (v := 0) hx hb dNr_followCopies_0 (by decide) ?_
  refine lv_istore_n (lv' := [(1, .int 0), (0, .ref (a 0))]) hx hb dNr_followCopies_1 rfl hl (by decide) rfl (fun ls hl => ?_)
  have key : ∀ (n t : Nat) (τ : nSt) (H : Heap) (locs : List Loc) (ls : Array Slot), FolC c0 n t τ u0 → rwI τ c0 → τ.N = σ.N → va_P D gC (nrW cI cP a τ) H → va_D A (nrW cI cP a τ) → va_S A s.heap H locs → lv_has ls 2 [(0, .ref (a 0)), (1, .int (nI t))] → W p l e (gR 6) s m args below meth c H locs 0 0 (MQ below (va_Qv (fun u => u = u0) (gx_B D gC (nrT cI cP) (nrW cI cP a) A) A) args s 0 0 A) (F0 m 2 ls []) := by
    intro n
    induction n with
    | zero =>
      intro t τ H locs ls hev hrw hNe hP hD hS hl
      obtain ⟨ht, hF0, hev⟩ := hev
      refine lv_iload_n hx hb dNr_followCopies_2 rfl (lv_at hl 1 rfl) ?_
      refine lv_aload_n hx hb dNr_followCopies_3 rfl (lv_at hl 0 rfl) ?_
      refine va_get (C := RNr) (T := TNr) (N := 10) (ci := 1) (v := .int (τ.F 0)) hx hb hg inNr hown hK hP 0 rfl rfl 4 (by decide) (hg _ f_Nr_123) (fun _ h9 => h9) rfl dNr_followCopies_4 ?_
      refine gx_top (z := nI t) hF0 ?_
      refine lv_icmp_ge (tgt := 35) hx hb dNr_followCopies_7 (by decide) (fun c_7 => ?_) (fun c_7 => ?_)
      · exact gx_vret (u := τ) E hK hP hD hS hev.symm dNr_followCopies_35
      · exact absurd c_7 (not_not_intro (nI_le (Nat.le_refl _) (by omega)))
    | succ n ih =>
      intro t τ H locs ls hev hrw hNe hP hD hS hl
      obtain ⟨nc, k, nf, v, hF0, htc, hnc, hCk, e0, hf, hkN, hfo, hev⟩ := hev
      have hkp := hfo.kept
      have hvN := hkp.2.1
      refine lv_iload_n hx hb dNr_followCopies_2 rfl (lv_at hl 1 rfl) ?_
      refine lv_aload_n hx hb dNr_followCopies_3 rfl (lv_at hl 0 rfl) ?_
      refine va_get (C := RNr) (T := TNr) (N := 10) (ci := 1) (v := .int (τ.F 0)) hx hb hg inNr hown hK hP 0 rfl rfl 4 (by decide) (hg _ f_Nr_123) (fun _ h9 => h9) rfl dNr_followCopies_4 ?_
      refine gx_top (z := nI nc) hF0 ?_
      refine lv_icmp_ge (tgt := 35) hx hb dNr_followCopies_7 (by decide) (fun c_7 => ?_) (fun c_7 => ?_)
      · exact absurd c_7 (nI_ge htc (by omega))
      · refine lv_iload_n hx hb dNr_followCopies_10 rfl (lv_at hl 1 rfl) ?_
        refine lv_aload_n hx hb dNr_followCopies_11 rfl (lv_at hl 0 rfl) ?_
        refine va_get (C := RNr) (T := TNr) (N := 10) (ci := 1) (v := .ref (a 7)) hx hb hg inNr hown hK hP 0 rfl rfl 2 (by decide) (hg _ f_Nr_20) (fun _ h9 => h9) rfl dNr_followCopies_12 ?_
        refine va_alen (v := 512) hx hb hK hP 7 0 rfl rfl rfl dNr_followCopies_15 ?_
        refine lv_icmp_ge (tgt := 35) hx hb dNr_followCopies_16 (by decide) (fun c_16 => ?_) (fun c_16 => ?_)
        · exact absurd c_16 (nI_ge (b := 512) (by omega) (by decide))
        · refine lv_aload_n hx hb dNr_followCopies_19 rfl (lv_at hl 0 rfl) ?_
          refine lv_aload_n hx hb dNr_followCopies_20 rfl (lv_at hl 0 rfl) ?_
          refine va_get (C := RNr) (T := TNr) (N := 10) (ci := 1) (v := .ref (a 7)) hx hb hg inNr hown hK hP 0 rfl rfl 2 (by decide) (hg _ f_Nr_20) (fun _ h9 => h9) rfl dNr_followCopies_21 ?_
          refine lv_iload_n hx hb dNr_followCopies_24 rfl (lv_at hl 1 rfl) ?_
          refine va_iald hx hb hK hP 7 0 rfl rfl (vp_in_nI (show t < 512 by omega) (by omega)) dNr_followCopies_25 ?_
          refine gx_top (z := τ.C t) (congrArg _ (nI_clamp (show t < 2 ^ 31 by omega))) ?_
          refine gx_top (z := nI k) hCk ?_
          skip
          refine gx_callv (C := "NurseryRow") (As := [.int (nI k)]) (rest := []) E (qNr_followFields l D cI cP a τ c0 k nf v e0 hf (by omega) hfo hrw (by omega)) (gx_cwV hts l_Nr_170 k_Nr_followFields ki_Nr_followFields ke_Nr_followFields z_Nr n_Nr_followFields ⟨by decide, by decide⟩) hK hP hD hS hA (va_recv hK hP (ci := 1) (q0 := 0) rfl rfl) hl.1 rfl rfl (Nat.le_of_ble_eq_true rfl) ⟨by decide, by decide⟩ dNr_followCopies_26 (fun u_2 H locs hq_3 hP hD hS => ?_)
          subst hq_3
          refine lv_iinc (v := nI (t + 1)) (lv' := [(1, .int (nI (t + 1))), (0, .ref (a 0))]) hx hb dNr_followCopies_29 hl (k := 1) rfl (by rw [← nI_1]; rfl) (by decide) rfl (fun ls hl => ?_)
          refine lv_goto (tgt := 2) hx hb dNr_followCopies_32 (by decide) ?_
          exact ih (t + 1) _ H locs ls hev (hrw.of hkp.1) (hkp.2.1.trans hNe) hP hD hS (lv_sub hl [1, 0] rfl)
  exact key n0 0 σ _ _ ls hev hrw rfl hP hD hS (lv_sub hl [1, 0] rfl)
end
section
/-! METHODS THAT RETURN OR THROW -/
abbrev xIA : String := "java/lang/IllegalArgumentException"
abbrev xNS : String := "java/util/NoSuchElementException"
abbrev xIS : String := "java/lang/IllegalStateException"
/-- words that are not good, and stay all the same -/
def gvB : List Cond := [.declares (Bundle.initS "java/lang/RuntimeException"), .declares (Bundle.initS "java/lang/Exception"), .declares (Bundle.initS Bundle.tN), .castable xIA xIA, .castable xNS xNS, .castable xIS xIS]
/-- the class's texts -/
def gvS : List (Nat × String) := [(40, "no such sizes"), (70, "no such limit"), (72, "no such object"), (94, "no such object or field"), (103, "no such object or word"), (108, "no such root or object"), (110, "no such root"), (117, "OLD has too little room"), (145, "nothing of that kind is told"), (156, "nothing of that kind is counted")]
def gv_T (U : State) : Prop := (∀ w ∈ gvB, va_Nw w U) ∧ (∀ q ∈ gvS, ∃ sa, vk_R "NurseryRow" q.1 q.2 sa U) ∧ va_Nc xIA xNS U
theorem gv_T.warm {s U : State} (hW : s.WarmedH U.vm) (h : gv_T s) : gv_T U := by
  refine ⟨fun w hw => ?_, fun q hq => ?_, va_Nc.moved hW.alike h.2.2⟩
  · have h1 := h.1 w hw
    simp only [gvB, List.mem_cons, List.not_mem_nil, or_false] at hw
    rcases hw with rfl | rfl | rfl | rfl | rfl | rfl
    · exact va_Nw.warmD hW h1
    · exact va_Nw.warmD hW h1
    · exact va_Nw.warmD hW h1
    · exact va_Nw.warmC hW h1
    · exact va_Nw.warmC hW h1
    · exact va_Nw.warmC hW h1
  · obtain ⟨sa, h2⟩ := h.2.1 q hq
    exact ⟨sa, vk_R.warm hW h2⟩
def gv_Z (A : Nat → Prop) (U : State) (H : Heap) : Prop := vx_Zq Bundle.tN "UNASSIGNED_STACK" Bundle.steD A U H ∧ vx_Zq Bundle.tN "SUPPRESSED_SENTINEL" Bundle.listD A U H
abbrev rxIA : ByteArray := prog_8_method_2_code
abbrev rxNS : ByteArray := prog_20_method_4_code
abbrev rxIS : ByteArray := prog_9_method_2_code
abbrev atIA : List Cond := nx_at "NurseryRow" 42 xIA 7 rxIA
abbrev atNS : List Cond := nx_at "NurseryRow" 96 xNS 13 rxNS
abbrev atIS : List Cond := nx_at "NurseryRow" 119 xIS 7 rxIS
set_option maxRecDepth 100000 in
theorem gx_IA : ∀ w ∈ atIA.filter goodWord, w ∈ lw_tbl := by decide +kernel
set_option maxRecDepth 100000 in
theorem gy_IA : ∀ w ∈ atIA.filter (fun w => !goodWord w), w ∈ gvB := by decide +kernel
set_option maxRecDepth 100000 in
theorem gx_NS : ∀ w ∈ atNS.filter goodWord, w ∈ lw_tbl := by decide +kernel
set_option maxRecDepth 100000 in
theorem gy_NS : ∀ w ∈ atNS.filter (fun w => !goodWord w), w ∈ gvB := by decide +kernel
set_option maxRecDepth 100000 in
theorem gx_IS : ∀ w ∈ atIS.filter goodWord, w ∈ lw_tbl := by decide +kernel
set_option maxRecDepth 100000 in
theorem gy_IS : ∀ w ∈ atIS.filter (fun w => !goodWord w), w ∈ gvB := by decide +kernel
theorem gv_at {L : List Cond} {args : Array Value} {s : State} (h1 : ∀ w ∈ L.filter goodWord, w ∈ lw_tbl) (h2 : ∀ w ∈ L.filter (fun w => !goodWord w), w ∈ gvB) (hg : ∀ w ∈ gW, w.before args s = true) (hT : gv_T s) : ∀ w ∈ L, w.before args s = true := by
  refine vx_hat (B := gvB) (fun w hw => hg w (List.mem_filter.mpr ⟨h1 w hw, (List.mem_filter.mp hw).2⟩)) h2 (fun w hw => ?_)
  have h3 := hT.1 w hw
  refine va_Nw.use ?_ h3
  simp only [gvB, List.mem_cons, List.not_mem_nil, or_false] at hw
  rcases hw with rfl | rfl | rfl | rfl | rfl | rfl <;> rfl
theorem go_IA : ∀ w ∈ Cond.classLink "NurseryRow" 38 xIA :: Cond.initialized xIA :: atIA, vx_ot w = true := by decide +kernel
theorem go_NS : ∀ w ∈ Cond.classLink "NurseryRow" 92 xNS :: Cond.initialized xNS :: atNS, vx_ot w = true := by decide +kernel
theorem go_IS : ∀ w ∈ Cond.classLink "NurseryRow" 115 xIS :: Cond.initialized xIS :: atIS, vx_ot w = true := by decide +kernel
section GV
variable {S : Type} {D : va_G} {cl : List vw_C} {tys : List (ClassId × FieldType)}
def gv_Pc (D : va_G) (cl : List vw_C) (tys : List (ClassId × FieldType)) (w : va_W) (sz : Nat) (av : List Value) : Array Value → State → Prop :=
  fun a U => gx_Pc D cl tys w sz av a U ∧ gv_Z (va_A w sz) U U.heap ∧ gv_T U
/-- thrown: the world as it was -/
def gv_X (D : va_G) (cl : List vw_C) (tys : List (ClassId × FieldType)) (w : va_W) (A : Nat → Prop) (thr : String → Prop) : String → State → State → Prop := fun E st t =>
  thr E ∧ va_P D cl w t.heap ∧ va_K D cl tys t ∧ va_D A w ∧ va_F A st t
/-- a method that answers an int and moves its world, or throws -/
def gv_M (l : Launch) (y : MethodName) (ws : List Cond) (rm : Room) (D : va_G) (cl : List vw_C) (tys : List (ClassId × FieldType)) (wf : S → va_W) (σ : S) (av : List Value) (post : Int32 → S → Prop) (thr : String → Prop) : Prop :=
  ∀ sz : Nat, vx_Met l y ws rm (gv_Pc D cl tys (wf σ) sz av) (va_Qi post (gx_B D cl tys wf (va_A (wf σ) sz)) (va_A (wf σ) sz)) (gv_X D cl tys (wf σ) (va_A (wf σ) sz) thr) rm.cells rm.slots (va_A (wf σ) sz)
theorem gv_blind {w : va_W} {sz : Nat} {av : List Value} : FrameBlind (gv_Pc D cl tys w sz av) := fun a U g mk q =>
  ⟨gx_blind a U g mk q.1, ⟨vx_Zq.moved (u := U) (U := U.calling g mk a) (Vm.Alike.refl U.vm) q.2.1.1, vx_Zq.moved (u := U) (U := U.calling g mk a) (Vm.Alike.refl U.vm) q.2.1.2⟩, gv_T.warm (s := U) (U := U.calling g mk a) (State.WarmedH.refl U) q.2.2⟩
theorem gv_M.of {l : Launch} {y : MethodName} {x : Cond} {ws' : List Cond} {rm : Room} {wf : S → va_W} {σ : S} {av : List Value} {post : Int32 → S → Prop} {thr : String → Prop} {cc : ByteArray} {maxL : Nat} {ret : Option FieldType}
    (hy : plainName y.cls = true) (hw : x :: ws' = Cond.code y cc maxL ret :: ws') (hlen : (lg_sl av).length ≤ maxL)
    (body : ∀ (p : Program) (e : Env) (s : State) (m : MethodId) (args : Array Value) (below : List Frame) (meth : Method) (c : Code) (ls : Array Slot) (A : Nat → Prop),
      gx_E p s m args meth c cc ret maxL (x :: ws') y → (∀ x ∈ c.exceptionTable.toList, False) → gv_Z A s s.heap → gv_T s → (∀ q : Nat, s.heap.size ≤ q → A q) → va_K D cl tys s → va_P D cl (wf σ) s.heap → va_D A (wf σ) → va_S A s.heap s.heap [] → lv_has ls maxL (lv_args 0 av) →
      W p l e rm s m args below meth c s.heap [] 0 0 (vx_MQ below (va_Qi post (gx_B D cl tys wf A) A) (gv_X D cl tys (wf σ) A thr) args s rm.cells rm.slots A) (F0 m 0 ls [])) : gv_M l y (x :: ws') rm D cl tys wf σ av post thr := by
  intro sz
  refine vx_ofW (cc := cc) (maxL := maxL) (ret := ret) hy hw ?_
  intro p e s m args below meth c s₁ B hml hex hv
  obtain ⟨⟨rfl, hsz, hP, hK, hD0⟩, hZ, hT⟩ := hv
  subst hsz
  have hl := lv_entry av (n := maxL) hlen
  rw [lg_entry_eq]
  exact body p e s m _ below meth c _ _ ⟨B.exec, B.bytes, B.returns, hml, atoms_spec (ws := x :: ws') B.pre, findClass_of_methodNamed B.named, B.notSynchronized, (name_of_methodNamed B.named B.method).1⟩ hex hZ hT (fun q h => Or.inr h) hK hP hD0.self va_S.rf hl
variable {p : Program} {l : Launch} {e : Env} {R : Room} {s : State} {m : MethodId} {args : Array Value} {below : List Frame} {meth : Method} {c : Code} {H : Heap} {locs : List Loc} {cells slots : Nat} {Q : State → Prop}
variable {cc : ByteArray} {nL : Nat} {x : Cond} {y : MethodName} {A : Nat → Prop} {pc : Nat} {ls : Array Slot} {ret : Option FieldType}
/-- 'throw new X("..")' out of the class -/
theorem gv_throw {Qc : Array Value → State → Outcome → State → Prop} {w : va_W} {thr : String → Prop} {X tx : String} {ik is ic mc ms : Nat} (E : gx_E p s m args meth c cc ret nL (x :: gW) y) (hy : y.cls = "NurseryRow") (hfl : l.stackTraces = false) (hex : ∀ x ∈ c.exceptionTable.toList, False) (hZ : gv_Z A s s.heap) (hT : gv_T s) (hK : va_K D cl tys s) (hP : va_P D cl w H) (hD : va_D A w) (hS : va_S A s.heap H locs) (hl : ls.size = nL)
    {ix : Nat} {rx : ByteArray} (x0 : decode rx 0 = .ok (.aload_n 0, 1)) (x1 : decode rx 1 = .ok (.aload_n 1, 1)) (x2 : decode rx 2 = .ok (.invokespecial ix, 3)) (x5 : decode rx 5 = .ok (.return_, 1))
    (hX : Bundle.fit X = true) (hk : Cond.classLink "NurseryRow" ik X ∈ gW) (hini : Cond.initialized X ∈ gW) (hstr : (is, tx) ∈ gvS)
    (h1 : ∀ w ∈ (nx_at "NurseryRow" ic X ix rx).filter goodWord, w ∈ lw_tbl) (h2 : ∀ w ∈ (nx_at "NurseryRow" ic X ix rx).filter (fun w => !goodWord w), w ∈ gvB) (h3 : ∀ w ∈ Cond.classLink "NurseryRow" ik X :: Cond.initialized X :: nx_at "NurseryRow" ic X ix rx, vx_ot w = true)
    (ht : thr X) (hrf : 6 ≤ R.frames) (hrl : 90 ≤ R.locals) (hrc : cells + 1 ≤ R.cells) (hrs : slots + 6 ≤ R.slots) (hmc : cells + 1 ≤ mc) (hms : slots + 6 ≤ ms)
    (d0 : decode cc pc = .ok (.new ik, 3)) (d3 : decode cc (pc + 3) = .ok (.dup, 1)) (d4 : decode cc (pc + 4) = .ok (.ldc is, 2)) (d6 : decode cc (pc + 6) = .ok (.invokespecial ic, 3)) (d9 : decode cc (pc + 9) = .ok (.athrow, 1)) :
    W p l e R s m args below meth c H locs cells slots (vx_MQ below Qc (gv_X D cl tys w A thr) args s mc ms A) (F0 m pc ls []) := by
  obtain ⟨hx, hb, -, hml, hts, hown, hlocks, -⟩ := id E
  rw [hy] at hown
  have hg : ∀ w ∈ gW, w.before args s = true := fun w h => hts w (List.mem_cons_of_mem _ h)
  obtain ⟨sa, hsa⟩ := hT.2.1 _ hstr
  refine nx_throw (A := A) hx hb hfl x0 x1 x2 x5 hown hX (hg _ hk) (hg _ hini) hsa (gv_at h1 h2 hg hT) h3 hZ.1 hZ.2 hS (hl.trans hml.symm) d0 d3 d4 d6 d9 (fun x h => (hex x h).elim) (by omega) (by simp only [List.map, List.sum_nil]; omega) hrc hrs hlocks ?_ hS.2.2 hmc hms
  intro t hvm hz hk
  refine ⟨ht, hP.kept (fun k q hq => hk q.1 (hP k q hq).lt), va_K.moved hvm hK, hD, Nat.le_trans hS.1 hz, fun q h1 h2 => ?_⟩
  rw [hk q (Nat.lt_of_lt_of_le h1 hS.1)]
  exact hS.2.1 q h1 h2
end GV
end
section
/-! Arrays.fill, and static calls -/
section GXS
variable {S : Type} {D : va_G} {cl : List vw_C} {tys : List (ClassId × FieldType)}
variable {p : Program} {l : Launch} {e : Env} {R : Room} {s : State} {m : MethodId} {args : Array Value} {below : List Frame} {meth : Method} {c : Code} {H : Heap} {locs : List Loc} {cells slots : Nat} {Q : State → Prop}
variable {cc : ByteArray} {nL : Nat} {ws : List Cond} {y : MethodName} {A : Nat → Prop} {pc : Nat} {ls : Array Slot} {rest : List Value}
variable {yc : MethodName} {bytes : ByteArray} {maxL n index : Nat} {retc : Option FieldType} {wsc : List Cond} {rmc : Room} {As : List Value} {ret : Option FieldType}
theorem gx_callvs {wf : S → va_W} {σ : S} {post : S → Prop} (E : gx_E p s m args meth c cc ret nL ws y) (hM : gx_Mv l yc wsc rmc D cl tys wf σ As post) (cw : CallB R s args y.cls index yc bytes maxL retc wsc rmc rmc.cells rmc.slots n ∧ (Cond.static yc).before args s = true)
    (hK : va_K D cl tys s) (hP : va_P D cl (wf σ) H) (hD : va_D A (wf σ)) (hS : va_S A s.heap H locs) (hA : ∀ q : Nat, s.heap.size ≤ q → A q) (hl : ls.size = nL) {st : List Value} (hst : st = As.reverse ++ rest) (hn : As.length = n) (hW : (rest.map fun v => v.category).sum ≤ 8)
    (hf : cells + rmc.cells ≤ R.cells ∧ slots + rmc.slots ≤ R.slots) (hdg : decode cc pc = .ok (.invokestatic index, 3))
    (kk : ∀ (u : S) (H1 : Heap) (locs1 : List Loc), post u → va_P D cl (wf u) H1 → va_D A (wf u) → va_S A s.heap H1 locs1 → W p l e R s m args below meth c H1 locs1 (cells + rmc.cells) (slots + rmc.slots) Q (F0 m (pc + 3) ls rest)) : W p l e R s m args below meth c H locs cells slots Q (F0 m pc ls st) := by
  have hF := gx_in hD hS hA
  refine va_callv (va_runS (g := F0 m pc ls st) (As := As) (rest := rest) ⟨E.1, E.2.1, E.2.2.2.1, E.2.2.2.2.2.1, E.2.2.2.2.1⟩ (hM H.size) cw ⟨gx_blind, gx_pre hP hK hD⟩ rfl hn hl hst (lv_room hW) hdg hf) hS (fun q _ h => hF q h) hF (fun u t H1 locs1 ht hvm hw hB hz1 hk1 hS1 => ?_)
  obtain ⟨hP1, hK1, hD1⟩ := hB
  rw [ht] at hP1
  exact kk u H1 locs1 hw hP1 (hD1.weaken (fun _ q _ h => hF q.1 h)) hS1
/-- one that only looks, and answers nothing -/
def gx_Mq (l : Launch) (y : MethodName) (ws : List Cond) (rm : Room) (D : va_G) (cl : List vw_C) (tys : List (ClassId × FieldType)) (w : va_W) (av : List Value) : Prop :=
  ∀ sz : Nat, Met l y ws rm (gx_Pc D cl tys w sz av) (fun _ st o t => o = .returned none ∧ t.heap = st.heap) 0 0 (fun _ => False)
theorem gx_Mq.of {ws' : List Cond} {rm : Room} {w : va_W} {av : List Value}
    (hy : plainName y.cls = true) (hw : ws = Cond.code y cc maxL none :: ws') (hlen : (lg_sl av).length ≤ maxL)
    (body : ∀ (p : Program) (e : Env) (s : State) (m : MethodId) (args : Array Value) (below : List Frame) (meth : Method) (c : Code) (ls : Array Slot),
      gx_E p s m args meth c cc none maxL ws y → va_K D cl tys s → va_P D cl w s.heap → va_D (fun _ => True) w → lv_has ls maxL (lv_args 0 av) →
      W p l e rm s m args below meth c s.heap [] 0 0 (MQ below (fun _ st o t => o = .returned none ∧ t.heap = st.heap) args s 0 0 (fun _ => False)) (F0 m 0 ls [])) : gx_Mq l y ws rm D cl tys w av := by
  intro sz
  refine Met.ofW (cc := cc) (maxL := maxL) (ret := none) hy hw ?_
  intro p e s m args below meth c s₁ B hml hv
  obtain ⟨rfl, hsz, hP, hK, hD0⟩ := hv
  have hl := lv_entry av (n := maxL) hlen
  rw [lg_entry_eq]
  exact body p e s m _ below meth c _ ⟨B.exec, B.bytes, B.returns, hml, atoms_spec (ws := ws) B.pre, findClass_of_methodNamed B.named, B.notSynchronized, (name_of_methodNamed B.named B.method).1⟩ hK hP hD0 hl
theorem gx_qret (E : gx_E p s m args meth c cc none nL ws y) (hdg : decode cc pc = .ok (.return_, 1)) :
    W p l e R s m args below meth c s.heap [] 0 0 (MQ below (fun _ st o t => o = .returned none ∧ t.heap = st.heap) args s 0 0 (fun _ => False)) (F0 m pc ls []) :=
  W.vret E.1 E.2.1 E.2.2.1 (fun t ht _ => ⟨rfl, ht⟩) (fun q h => by cases h) hdg (hlocks := E.2.2.2.2.2.2.1)
theorem gx_callqs {w : va_W} (E : gx_E p s m args meth c cc ret nL ws y) (hM : gx_Mq l yc wsc rmc D cl tys w As) (cw : CallB R s args y.cls index yc bytes maxL retc wsc rmc 0 0 n ∧ (Cond.static yc).before args s = true)
    (hK : va_K D cl tys s) (hP : va_P D cl w H) (hD : va_D A w) (hl : ls.size = nL) {st : List Value} (hst : st = As.reverse ++ rest) (hn : As.length = n) (hW : (rest.map fun v => v.category).sum ≤ 8)
    (hf : cells ≤ R.cells ∧ slots ≤ R.slots) (hdg : decode cc pc = .ok (.invokestatic index, 3)) (kk : W p l e R s m args below meth c H locs cells slots Q (F0 m (pc + 3) ls rest)) : W p l e R s m args below meth c H locs cells slots Q (F0 m pc ls st) := by
  have hr := W.runS (g := F0 m pc ls st) (H := H) (locs := locs) (cells := cells) (slots := slots) (As := As) (rest := rest) (e := e) (below := below) (meth := meth) ⟨E.1, E.2.1, E.2.2.2.1, E.2.2.2.2.2.1, E.2.2.2.2.1⟩ (hM H.size) cw ⟨gx_blind, gx_pre hP hK hD⟩ rfl hn hl hst (lv_room hW) hdg hf
  intro T hT X
  obtain ⟨v, st₀, t, T', L, h0, X', hL, e1, ⟨hv, hh⟩, st1⟩ := hr T hT X
  cases hv
  obtain ⟨t2, a1, b1⟩ := kk T' (by rw [e1, hh, h0]) (Stand.forget X' (fun q h => (hL q h).elim))
  exact ⟨t2, st1 t2 a1, b1⟩
end GXS
/-- an array's cell -/
def arW (cI : ClassId) (h n : Nat) (f : Nat → Int32) : va_W := [(h, .inl (cI, n, .inl f))]
/-- f with v from lo on, up to hi -/
def fillF (f : Nat → Int32) (lo hi : Nat) (v : Int32) : Nat → Int32 := fun j => if lo ≤ j ∧ j < hi then v else f j
theorem fillF_0 (f : Nat → Int32) (lo : Nat) (v : Int32) : fillF f lo lo v = f := funext fun j => by simp only [fillF]; rw [if_neg (by omega)]
theorem fillF_1 (f : Nat → Int32) {lo hi : Nat} (h : lo ≤ hi) (v : Int32) : upd (fillF f lo hi v) hi v = fillF f lo (hi + 1) v := funext fun j => by
  simp only [fillF, upd]
  by_cases e : j = hi
  · rw [if_pos e, if_pos (by omega)]
  · rw [if_neg e]
    by_cases q : lo ≤ j ∧ j < hi
    · rw [if_pos q, if_pos (by omega)]
    · rw [if_neg q, if_neg (by omega)]
set_option maxHeartbeats 4000000 in
theorem qAr_rangeCheck (l : Launch) (D : va_G) (tys : List (ClassId × FieldType)) (w : va_W) (n f t : Nat) (hf : f ≤ t) (ht : t ≤ n) (hn : n < 2 ^ 31) : gx_Mq l yAr_rangeCheck (Cond.code yAr_rangeCheck cAr_rangeCheck 3 none :: gW) (gR 0) D gC tys w [.int (nI n), .int (nI f), .int (nI t)] := by
  refine gx_Mq.of (cc := cAr_rangeCheck) (maxL := 3) (by decide) rfl (Nat.le_of_ble_eq_true rfl) ?_
  intro p e s m args below meth c ls E hK hP hD hl
  obtain ⟨hx, hb, hr, hml, hts, hown, hlocks, hnm⟩ := id E
  have hl : lv_has ls 3 [(0, .int (nI n)), (1, .int (nI f)), (2, .int (nI t))] := hl
  refine lv_iload_n hx hb dAr_rangeCheck_0 rfl (lv_at hl 1 rfl) ?_
  refine lv_iload_n hx hb dAr_rangeCheck_1 rfl (lv_at hl 2 rfl) ?_
  refine lv_icmp_le (tgt := 46) hx hb dAr_rangeCheck_2 (by decide) (fun c_2 => ?_) (fun c_2 => ?_)
  · refine lv_iload_n hx hb dAr_rangeCheck_46 rfl (lv_at hl 1 rfl) ?_
    refine lv_if_ge (tgt := 59) hx hb dAr_rangeCheck_47 (by decide) (fun c_47 => ?_) (fun c_47 => ?_)
    · refine lv_iload_n hx hb dAr_rangeCheck_59 rfl (lv_at hl 2 rfl) ?_
      refine lv_iload_n hx hb dAr_rangeCheck_60 rfl (lv_at hl 0 rfl) ?_
      refine lv_icmp_le (tgt := 73) hx hb dAr_rangeCheck_61 (by decide) (fun c_61 => ?_) (fun c_61 => ?_)
      · exact gx_qret E dAr_rangeCheck_73
      · exact absurd c_61 (not_not_intro (nI_le ht hn))
    · exact absurd c_47 (not_not_intro (nI_pos' (by omega)))
  · exact absurd c_2 (not_not_intro (nI_le hf (by omega)))
set_option maxHeartbeats 4000000 in
set_option maxRecDepth 100000 in
theorem qAr_fill2 (l : Launch) (D : va_G) (cI : ClassId) (tys : List (ClassId × FieldType)) (h n : Nat) (f : Nat → Int32) (v : Int32) (hn : n < 2 ^ 31) : gx_Mv l yAr_fill2 (Cond.code yAr_fill2 cAr_fill2 4 none :: gW) (gR 0) D gC ((cI, .int) :: tys) (arW cI h n) f [.ref h, .int v] (fun g => g = fillF f 0 n v) := by
  refine gx_Mv.of (cc := cAr_fill2) (maxL := 4) (by decide) rfl (Nat.le_of_ble_eq_true rfl) ?_
  intro p e s m args below meth c ls A E hA hK hP hD hS hl
  obtain ⟨hx, hb, hr, hml, hts, hown, hlocks, hnm⟩ := id E
  have hg : ∀ w ∈ gW, w.before args s = true := fun w h => hts w (List.mem_cons_of_mem _ h)
  have hown : s.vm.findClass "java/util/Arrays" = some m.cls := hown
  have hl : lv_has ls 4 [(0, .ref h), (1, .int v)] := hl
  refine lv_iconst (v := 0) hx hb dAr_fill2_0 (by decide) ?_
  refine lv_istore_n (lv' := [(2, .int 0), (0, .ref h), (1, .int v)]) hx hb dAr_fill2_1 rfl hl (by decide) rfl (fun ls hl => ?_)
  refine lv_aload_n hx hb dAr_fill2_2 rfl (lv_at hl 1 rfl) ?_
  refine va_alen (v := nI n) hx hb hK hP 0 0 rfl rfl rfl dAr_fill2_3 ?_
  refine lv_istore_n (lv' := [(3, .int (nI n)), (2, .int 0), (0, .ref h), (1, .int v)]) hx hb dAr_fill2_4 rfl hl (by decide) rfl (fun ls hl => ?_)
  have key : ∀ (k t : Nat) (H : Heap) (locs : List Loc) (ls : Array Slot), t + k = n → 0 ≤ t → va_P D gC (arW cI h n (fillF f 0 t v)) H → va_D A (arW cI h n (fillF f 0 t v)) → va_S A s.heap H locs → lv_has ls 4 [(0, .ref h), (1, .int v), (2, .int (nI t)), (3, .int (nI n))] → W p l e (gR 0) s m args below meth c H locs 0 0 (MQ below (va_Qv (fun g => g = fillF f 0 n v) (gx_B D gC ((cI, .int) :: tys) (arW cI h n) A) A) args s 0 0 A) (F0 m 5 ls []) := by
    intro k
    induction k with
    | zero =>
      intro t H locs ls hte hlt hP hD hS hl
      refine lv_iload_n hx hb dAr_fill2_5 rfl (lv_at hl 2 rfl) ?_
      refine lv_iload_n hx hb dAr_fill2_6 rfl (lv_at hl 3 rfl) ?_
      refine lv_icmp_ge (tgt := 20) hx hb dAr_fill2_7 (by decide) (fun c_7 => ?_) (fun c_7 => ?_)
      · exact gx_vret (u := fillF f 0 t v) E hK hP hD hS (by rw [show t = n by omega]) dAr_fill2_20
      · exact absurd c_7 (not_not_intro (nI_le (by omega) (by omega)))
    | succ k ih =>
      intro t H locs ls hte hlt hP hD hS hl
      refine lv_iload_n hx hb dAr_fill2_5 rfl (lv_at hl 2 rfl) ?_
      refine lv_iload_n hx hb dAr_fill2_6 rfl (lv_at hl 3 rfl) ?_
      refine lv_icmp_ge (tgt := 20) hx hb dAr_fill2_7 (by decide) (fun c_7 => ?_) (fun c_7 => ?_)
      · exact absurd c_7 (nI_ge (by omega) (by omega))
      · refine lv_aload_n hx hb dAr_fill2_10 rfl (lv_at hl 0 rfl) ?_
        refine lv_iload_n hx hb dAr_fill2_11 rfl (lv_at hl 2 rfl) ?_
        refine lv_iload_n hx hb dAr_fill2_12 rfl (lv_at hl 1 rfl) ?_
        refine va_iast hx hb hK hP hD hS 0 0 rfl rfl (vp_in_nI (show t < n by omega) hn) dAr_fill2_13 (fun H locs hP hD hS => ?_)
        rw [nI_clamp (show t < 2 ^ 31 by omega)] at hP hD
        have hP : va_P D gC (arW cI h n (upd (fillF f 0 t v) t v)) H := hP
        have hD : va_D A (arW cI h n (upd (fillF f 0 t v) t v)) := hD
        rw [fillF_1 f hlt v] at hP hD
        have hP : va_P D gC (arW cI h n (fillF f 0 (t + 1) v)) H := hP
        have hD : va_D A (arW cI h n (fillF f 0 (t + 1) v)) := hD
        refine lv_iinc (v := nI (t + 1)) (lv' := [(2, .int (nI (t + 1))), (0, .ref h), (1, .int v), (3, .int (nI n))]) hx hb dAr_fill2_14 hl (k := 2) rfl (by rw [← nI_1]; rfl) (by decide) rfl (fun ls hl => ?_)
        refine lv_goto (tgt := 5) hx hb dAr_fill2_17 (by decide) ?_
        exact ih (t + 1) H locs ls (by omega) (by omega) hP hD hS (lv_sub hl [1, 2, 0, 3] rfl)
  exact key n 0 _ _ ls (by omega) (Nat.le_refl _) (by rw [fillF_0]; exact hP) (by rw [fillF_0]; exact hD) hS (lv_sub hl [2, 3, 1, 0] rfl)
set_option maxHeartbeats 4000000 in
set_option maxRecDepth 100000 in
theorem qAr_fill4 (l : Launch) (D : va_G) (cI : ClassId) (tys : List (ClassId × FieldType)) (h n : Nat) (f : Nat → Int32) (v : Int32) (lo hi : Nat) (h1 : lo ≤ hi) (h2 : hi ≤ n) (hn : n < 2 ^ 31) : gx_Mv l yAr_fill4 (Cond.code yAr_fill4 cAr_fill4 5 none :: gW) (gR 1) D gC ((cI, .int) :: tys) (arW cI h n) f [.ref h, .int (nI lo), .int (nI hi), .int v] (fun g => g = fillF f lo hi v) := by
  refine gx_Mv.of (cc := cAr_fill4) (maxL := 5) (by decide) rfl (Nat.le_of_ble_eq_true rfl) ?_
  intro p e s m args below meth c ls A E hA hK hP hD hS hl
  obtain ⟨hx, hb, hr, hml, hts, hown, hlocks, hnm⟩ := id E
  have hg : ∀ w ∈ gW, w.before args s = true := fun w h => hts w (List.mem_cons_of_mem _ h)
  have hown : s.vm.findClass "java/util/Arrays" = some m.cls := hown
  have hl : lv_has ls 5 [(0, .ref h), (1, .int (nI lo)), (2, .int (nI hi)), (3, .int v)] := hl
  refine lv_aload_n hx hb dAr_fill4_0 rfl (lv_at hl 0 rfl) ?_
  refine va_alen (v := nI n) hx hb hK hP 0 0 rfl rfl rfl dAr_fill4_1 ?_
  refine lv_iload_n hx hb dAr_fill4_2 rfl (lv_at hl 1 rfl) ?_
  refine lv_iload_n hx hb dAr_fill4_3 rfl (lv_at hl 2 rfl) ?_
  refine gx_callqs (As := [.int (nI n), .int (nI lo), .int (nI hi)]) (rest := []) E (qAr_rangeCheck l D _ _ n lo hi h1 h2 hn) (gx_cwS hts l_Ar_13 k_Ar_rangeCheck kt_Ar_rangeCheck z_Ar n_Ar_rangeCheck ⟨by decide, by decide⟩) hK hP hD hl.1 rfl rfl (by decide) ⟨Nat.zero_le _, Nat.zero_le _⟩ dAr_fill4_4 ?_
  refine lv_iload_n hx hb dAr_fill4_7 rfl (lv_at hl 1 rfl) ?_
  refine lv_istore (lv' := [(4, .int (nI lo)), (0, .ref h), (1, .int (nI lo)), (2, .int (nI hi)), (3, .int v)]) hx hb dAr_fill4_8 hl (by decide) rfl (fun ls hl => ?_)
  have key : ∀ (k t : Nat) (H : Heap) (locs : List Loc) (ls : Array Slot), t + k = hi → lo ≤ t → va_P D gC (arW cI h n (fillF f lo t v)) H → va_D A (arW cI h n (fillF f lo t v)) → va_S A s.heap H locs → lv_has ls 5 [(0, .ref h), (1, .int (nI lo)), (2, .int (nI hi)), (3, .int v), (4, .int (nI t))] → W p l e (gR 1) s m args below meth c H locs 0 0 (MQ below (va_Qv (fun g => g = fillF f lo hi v) (gx_B D gC ((cI, .int) :: tys) (arW cI h n) A) A) args s 0 0 A) (F0 m 10 ls []) := by
    intro k
    induction k with
    | zero =>
      intro t H locs ls hte hlt hP hD hS hl
      refine lv_iload hx hb dAr_fill4_10 (lv_at hl 4 rfl) ?_
      refine lv_iload_n hx hb dAr_fill4_12 rfl (lv_at hl 2 rfl) ?_
      refine lv_icmp_ge (tgt := 27) hx hb dAr_fill4_13 (by decide) (fun c_13 => ?_) (fun c_13 => ?_)
      · exact gx_vret (u := fillF f lo t v) E hK hP hD hS (by rw [show t = hi by omega]) dAr_fill4_27
      · exact absurd c_13 (not_not_intro (nI_le (by omega) (by omega)))
    | succ k ih =>
      intro t H locs ls hte hlt hP hD hS hl
      refine lv_iload hx hb dAr_fill4_10 (lv_at hl 4 rfl) ?_
      refine lv_iload_n hx hb dAr_fill4_12 rfl (lv_at hl 2 rfl) ?_
      refine lv_icmp_ge (tgt := 27) hx hb dAr_fill4_13 (by decide) (fun c_13 => ?_) (fun c_13 => ?_)
      · exact absurd c_13 (nI_ge (by omega) (by omega))
      · refine lv_aload_n hx hb dAr_fill4_16 rfl (lv_at hl 0 rfl) ?_
        refine lv_iload hx hb dAr_fill4_17 (lv_at hl 4 rfl) ?_
        refine lv_iload_n hx hb dAr_fill4_19 rfl (lv_at hl 3 rfl) ?_
        refine va_iast hx hb hK hP hD hS 0 0 rfl rfl (vp_in_nI (show t < n by omega) hn) dAr_fill4_20 (fun H locs hP hD hS => ?_)
        rw [nI_clamp (show t < 2 ^ 31 by omega)] at hP hD
        have hP : va_P D gC (arW cI h n (upd (fillF f lo t v) t v)) H := hP
        have hD : va_D A (arW cI h n (upd (fillF f lo t v) t v)) := hD
        rw [fillF_1 f hlt v] at hP hD
        have hP : va_P D gC (arW cI h n (fillF f lo (t + 1) v)) H := hP
        have hD : va_D A (arW cI h n (fillF f lo (t + 1) v)) := hD
        refine lv_iinc (v := nI (t + 1)) (lv' := [(4, .int (nI (t + 1))), (0, .ref h), (1, .int (nI lo)), (2, .int (nI hi)), (3, .int v)]) hx hb dAr_fill4_21 hl (k := 4) rfl (by rw [← nI_1]; rfl) (by decide) rfl (fun ls hl => ?_)
        refine lv_goto (tgt := 10) hx hb dAr_fill4_24 (by decide) ?_
        exact ih (t + 1) H locs ls (by omega) (by omega) hP hD hS (lv_sub hl [1, 2, 3, 4, 0] rfl)
  exact key (hi - lo) lo _ _ ls (by omega) (Nat.le_refl _) (by rw [fillF_0]; exact hP) (by rw [fillF_0]; exact hD) hS (lv_sub hl [1, 2, 3, 4, 0] rfl)
end
section
/-! BEFORE THE PUBLIC METHODS -/
theorem gx_same {D : va_G} {cl : List vw_C} {tys : List (ClassId × FieldType)} {s : State} {c1 c2 : ClassId} {i j : Nat} (hK : va_K D cl tys s) (h1 : tys[i]? = some (c1, .int)) (h2 : tys[j]? = some (c2, .int)) : c2 = c1 := by
  have e1 : s.vm.findClass _ = some c1 := (hK.2 i _ h1).2
  have e2 : s.vm.findClass _ = some c2 := (hK.2 j _ h2).2
  exact Option.some.inj (e2.symm.trans e1)
theorem rIA0 : decode rxIA 0 = .ok (.aload_n 0, 1) := by decide +kernel
theorem rIA1 : decode rxIA 1 = .ok (.aload_n 1, 1) := by decide +kernel
theorem rIA2 : decode rxIA 2 = .ok (.invokespecial 7, 3) := by decide +kernel
theorem rIA5 : decode rxIA 5 = .ok (.return_, 1) := by decide +kernel
theorem rNS0 : decode rxNS 0 = .ok (.aload_n 0, 1) := by decide +kernel
theorem rNS1 : decode rxNS 1 = .ok (.aload_n 1, 1) := by decide +kernel
theorem rNS2 : decode rxNS 2 = .ok (.invokespecial 13, 3) := by decide +kernel
theorem rNS5 : decode rxNS 5 = .ok (.return_, 1) := by decide +kernel
theorem rIS0 : decode rxIS 0 = .ok (.aload_n 0, 1) := by decide +kernel
theorem rIS1 : decode rxIS 1 = .ok (.aload_n 1, 1) := by decide +kernel
theorem rIS2 : decode rxIS 2 = .ok (.invokespecial 7, 3) := by decide +kernel
theorem rIS5 : decode rxIS 5 = .ok (.return_, 1) := by decide +kernel
/-- within lo and hi: a small number -/
theorem isW_ne {x lo hi : Int32} {a b : Nat} (h : ¬ isW x lo hi = 0) (hlo : lo = nI a) (hhi : hi = nI b) (hb : b < 2 ^ 31) (hab : a ≤ b) : ∃ n, x = nI n ∧ a ≤ n ∧ n ≤ b := by
  simp only [isW] at h
  by_cases c1 : x < lo
  · rw [if_pos c1] at h; exact absurd rfl h
  · rw [if_neg c1] at h
    by_cases c2 : hi < x
    · rw [if_pos c2] at h; exact absurd rfl h
    · subst hlo; subst hhi
      have h0 : ¬ x < 0 := fun q => c1 (Int32.lt_of_lt_of_le q (nI_pos' (by omega)))
      obtain ⟨j, hj, rfl⟩ := nI_of h0
      exact ⟨j, rfl, Nat.not_lt.mp fun q => c1 (nI_lt q (by omega)), Nat.not_lt.mp fun q => c2 (nI_lt q hj)⟩
theorem isR_ne {x : Int32} (h : ¬ isR x = 0) : ∃ n, x = nI n ∧ n < 16 := by
  simp only [isR] at h
  by_cases c1 : x < 0
  · rw [if_pos c1] at h; exact absurd rfl h
  · rw [if_neg c1] at h
    by_cases c2 : 16 ≤ x
    · rw [if_pos c2] at h; exact absurd rfl h
    · obtain ⟨j, hj, rfl⟩ := nI_of c1
      exact ⟨j, rfl, Nat.not_le.mp fun q => c2 (show nI 16 ≤ nI j from nI_le q hj)⟩
/-- an object's address, its counts -/
theorem isOb_ad {σ : nSt} {pp : Nat → Nat → Nat} {x : Int32} (h : nInv σ pp) (hx : ¬ isOb σ.X pp x = 0) : ∃ k nf nw, x = nI k ∧ 1 ≤ k ∧ k + (3 + nf + nw) ≤ σ.N ∧ nf ≤ 200 ∧ nw ≤ 200 ∧ σ.X k = nI nf ∧ σ.X (k + 1) = nI nw := by
  obtain ⟨i, hi, t, ht, rfl⟩ := isOb_ne hx
  obtain ⟨nf, nw, h1, h2, h3, h4, h5⟩ := (h.2.1 i hi).sz ht
  have hin := (h.2.1 i hi).in ht
  have hen := h.end hi
  exact ⟨_, nf, nw, rfl, by omega, by omega, h1, h2, h3, h4⟩
theorem fCl_ne {σ : nSt} {pp : Nat → Nat → Nat} {x f : Int32} (h : nInv σ pp) (hx : ¬ fCl σ.X pp x f = 0) : ∃ k nf nw j, x = nI k ∧ 1 ≤ k ∧ k + (3 + nf + nw) ≤ σ.N ∧ nf ≤ 200 ∧ nw ≤ 200 ∧ σ.X k = nI nf ∧ f = nI j ∧ j < nf ∧ fCl σ.X pp x f = nI (k + 3 + j) := by
  by_cases c0 : isOb σ.X pp x = 0
  · simp [fCl, c0] at hx
  · obtain ⟨k, nf, nw, rfl, h1, h2, h3, h4, h5, h6⟩ := isOb_ad h c0
    have hN := h.2.2.2.2.2.2.2
    have hk : (nI k).toNatClampNeg = k := nI_clamp (by omega)
    simp only [fCl, if_neg c0, hk] at hx ⊢
    by_cases c1 : f < 0
    · rw [if_pos c1] at hx; exact absurd rfl hx
    · rw [if_neg c1] at hx ⊢
      by_cases c2 : f < σ.X k
      · obtain ⟨j, hj, rfl⟩ := nI_of c1
        rw [h5] at c2
        refine ⟨k, nf, nw, j, rfl, h1, h2, h3, h4, h5, rfl, (nI_ltI hj (by omega)).mp c2, ?_⟩
        rw [if_pos (by rw [h5]; exact c2), show (3 : Int32) = nI 3 from rfl, nI_add, nI_add]
      · rw [if_neg c2] at hx; exact absurd rfl hx
theorem wCl_ne {σ : nSt} {pp : Nat → Nat → Nat} {x f : Int32} (h : nInv σ pp) (hx : ¬ wCl σ.X pp x f = 0) : ∃ k nf nw j, x = nI k ∧ 1 ≤ k ∧ k + (3 + nf + nw) ≤ σ.N ∧ nf ≤ 200 ∧ nw ≤ 200 ∧ σ.X k = nI nf ∧ σ.X (k + 1) = nI nw ∧ f = nI j ∧ j < nw ∧ wCl σ.X pp x f = nI (k + 3 + nf + j) := by
  by_cases c0 : isOb σ.X pp x = 0
  · simp [wCl, c0] at hx
  · obtain ⟨k, nf, nw, rfl, h1, h2, h3, h4, h5, h6⟩ := isOb_ad h c0
    have hN := h.2.2.2.2.2.2.2
    have hk : (nI k).toNatClampNeg = k := nI_clamp (by omega)
    simp only [wCl, if_neg c0, hk] at hx ⊢
    by_cases c1 : f < 0
    · rw [if_pos c1] at hx; exact absurd rfl hx
    · rw [if_neg c1] at hx ⊢
      by_cases c2 : f < σ.X (k + 1)
      · obtain ⟨j, hj, rfl⟩ := nI_of c1
        rw [h6] at c2
        refine ⟨k, nf, nw, j, rfl, h1, h2, h3, h4, h5, h6, rfl, (nI_ltI hj (by omega)).mp c2, ?_⟩
        rw [if_pos (by rw [h6]; exact c2), h5, show (3 : Int32) = nI 3 from rfl, nI_add, nI_add, nI_add]
      · rw [if_neg c2] at hx; exact absurd rfl hx
/-- all cells, as the class adds them -/
def allC (σ : nSt) : Int32 := 0 + σ.P 0 1 + σ.P 1 1 + σ.P 2 1 + σ.P 3 1
/-- the cells grow, if they must -/
def grow (σ u : nSt) : Prop := (allC σ < nI σ.N ∧ u = σ) ∨ (¬ allC σ < nI σ.N ∧ ∃ q, u = σ.sN 10241 q (fun _ => 0))
section FILLN
variable {l : Launch} {D : va_G} {cI cP : ClassId} {a : Nat → Nat} {σ : nSt}
theorem nr_fillR (v : Int32) : gx_Mv l yAr_fill2 (Cond.code yAr_fill2 cAr_fill2 4 none :: gW) (gR 0) D gC (nrT cI cP) (nrW cI cP a) σ [.ref (a 6), .int v] (fun u => u = σ.sR (fillF σ.R 0 16 v)) :=
  gx_Mv.lift (wr := (nrW cI cP a σ).eraseIdx 6) (qAr_fill2 l D cI [(cP, .object "NurseryRow$Part")] (a 6) 16 σ.R v (by decide)) (fun f => σ.sR f) [6] [0, 1, 2, 3, 4, 5, 7, 8] [0, 1, 2, 3, 4, 5, 8, 6, 7] rfl rfl rfl rfl (by decide) rfl (fun _ => rfl) (fun u h => by rw [h])
theorem nr_fillX (v : Int32) (lo hi : Nat) (h1 : lo ≤ hi) (h2 : hi ≤ σ.N) (hN : σ.N < 2 ^ 31) : gx_Mv l yAr_fill4 (Cond.code yAr_fill4 cAr_fill4 5 none :: gW) (gR 1) D gC (nrT cI cP) (nrW cI cP a) σ [.ref σ.hx, .int (nI lo), .int (nI hi), .int v] (fun u => u = σ.sX (fillF σ.X lo hi v)) :=
  gx_Mv.lift (wr := (nrW cI cP a σ).eraseIdx 8) (qAr_fill4 l D cI [(cP, .object "NurseryRow$Part")] σ.hx σ.N σ.X v lo hi h1 h2 hN) (fun f => σ.sX f) [8] [0, 1, 2, 3, 4, 5, 6, 7] [0, 1, 2, 3, 4, 5, 6, 7, 8] rfl rfl rfl rfl (by decide) rfl (fun _ => rfl) (fun u h => by rw [h])
end FILLN
theorem tsw (x : Int32) (n : Nat) (hn : n < 2 ^ 31) : (x.toInt < 0 ∨ (n : Int) < x.toInt) ∨ ∃ j, j ≤ n ∧ x = nI j := by
  by_cases h : x < 0
  · left; left
    have := Int32.lt_iff_toInt_lt.mp h
    simpa using this
  · obtain ⟨j, hj, rfl⟩ := nI_of h
    by_cases q : j ≤ n
    · exact Or.inr ⟨j, q, rfl⟩
    · left; right
      rw [nI_toInt hj]
      omega
theorem pOf_at {σ : nSt} {pp : Nat → Nat → Nat} (h : nInv σ pp) {i t : Nat} (hi : i < 4) (ht : t < pp i 3) : pOf σ (nI (ch σ.X (pp i 0) t)) = nI i := by
  have hl := (h.2.1 i hi).in ht
  have he := h.end hi
  have hs : 3 ≤ szX σ.X (ch σ.X (pp i 0) t) := by simp only [szX]; omega
  rcases pOf_spec h (nI (ch σ.X (pp i 0) t)) with ⟨i2, k, hi2, e1, e2, h1, h2⟩ | ⟨-, hno⟩
  · have he2 := h.end hi2
    have e3 : ch σ.X (pp i 0) t = k := (nI_eq (by omega) (by omega)).mp e2
    have := h.one hi2 h1 h2 hi ht e3.symm
    subst this
    exact e1
  · exact absurd rfl (hno i hi _ hl.1 (by omega))
/-- what 'about' tells -/
def abA (σ : nSt) (x : Int32) (j : Nat) : Int32 := match j with
  | 0 => σ.X (x.toNatClampNeg + 2)
  | 1 => σ.X x.toNatClampNeg
  | 2 => σ.X (x.toNatClampNeg + 1)
  | _ => pOf σ x
/-- what 'count' tells -/
def cnA (σ : nSt) (c0 j : Nat) : Int32 := match j with
  | 0 => σ.P 0 3
  | 1 => σ.P (1 + c0) 3
  | 2 => σ.P 3 3
  | 3 => σ.P 0 2
  | 4 => σ.P (1 + c0) 2
  | 5 => σ.P 3 2
  | 6 => σ.F 3
  | 7 => σ.F 4
  | 8 => σ.F 5
  | _ => σ.F 2
/-- a new object at b -/
def mkS (σ : nSt) (x y : Int32) (sz b : Nat) : nSt :=
  (((σ.sP 0 (σ.P 0 0, σ.P 0 1, σ.P 0 2 + nI sz, σ.P 0 3 + 1)).sX (fillF σ.X b (b + sz) 0)).sX (upd (fillF σ.X b (b + sz) 0) b x)).sX (upd (upd (fillF σ.X b (b + sz) 0) b x) (b + 1) y)
def laid (σ : nSt) (x y z : Int32) : nSt := (((σ.sP 0 (1, x, 0, 0)).sP 1 (1 + x, y, 0, 0)).sP 2 (1 + x + y, y, 0, 0)).sP 3 (1 + x + 2 * y, z, 0, 0)
/-- a collection's evidence -/
def ColE (σ : nSt) (c0 : Nat) (r : Int32) (u : nSt) : Prop :=
  ∃ (n3 k0 nC : Nat) (v1 v2 v3 : nSt), n3 < 2 ^ 31 ∧ σ.P 3 3 = nI n3 ∧ v1.P 3 0 = nI k0 ∧ FolR c0 16 0 (σ.sF 0 0) v1 ∧ FolO c0 n3 k0 v1 v2 ∧ FolC c0 nC 0 v2 v3 ∧ r = v3.F 0 ∧
    u = (((v3.sP 0 (v3.P 0 0, v3.P 0 1, 0, 0)).sP (1 + c0) (v3.P (1 + c0) 0, v3.P (1 + c0) 1, 0, 0)).sF 2 (1 - v3.F 2)).sF 3 (v3.F 3 + 1)
end
section
/-! THE PUBLIC METHODS -/
set_option maxHeartbeats 4000000 in
set_option maxRecDepth 100000 in
/-- the limit -/
theorem qNr_limit (l : Launch) (hfl : l.stackTraces = false) (D : va_G) (cI cP : ClassId) (a : Nat → Nat) (σ : nSt) (x : Int32) : gv_M l yNr_limit (Cond.code yNr_limit cNr_limit 3 (some .int) :: gW) (gRc 8 1 6) D gC (nrT cI cP) (nrW cI cP a) σ [.ref (a 0), .int x] (fun r u => ¬ isW x 0 15 = 0 ∧ r = σ.F 1 ∧ u = σ.sF 1 x) (fun E => E = xIA ∧ isW x 0 15 = 0) := by
  refine gv_M.of (cc := cNr_limit) (maxL := 3) (ret := (some .int)) (by decide) rfl (Nat.le_of_ble_eq_true rfl) ?_
  intro p e s m args below meth c ls A E hex hZ hT hA hK hP hD hS hl
  obtain ⟨hx, hb, hr, hml, hts, hown, hlocks, hnm⟩ := id E
  have hg : ∀ w ∈ gW, w.before args s = true := fun w h => hts w (List.mem_cons_of_mem _ h)
  have hown : s.vm.findClass "NurseryRow" = some m.cls := hown
  have hl : lv_has ls 3 [(0, .ref (a 0)), (1, .int x)] := hl
  refine lv_iload_n hx hb dNr_limit_0 rfl (lv_at hl 1 rfl) ?_
  refine lv_iconst (v := 0) hx hb dNr_limit_1 (by decide) ?_
  refine lv_bipush (v := 15) hx hb dNr_limit_2 (by decide) ?_
  refine gx_callps (As := [.int x, .int 0, .int 15]) (rest := []) E (qNr_isWithin l D _ _ x 0 15) (gx_cwS hts l_Nr_34 k_Nr_isWithin kt_Nr_isWithin z_Nr n_Nr_isWithin ⟨by decide, by decide⟩) hK hP hD hl.1 rfl rfl (Nat.le_of_ble_eq_true rfl) ⟨Nat.zero_le _, Nat.zero_le _⟩ dNr_limit_4 ?_
  refine lv_if_ne (tgt := 20) hx hb dNr_limit_7 (by decide) (fun c_7 => ?_) (fun c_7 => ?_)
  · refine lv_aload_n hx hb dNr_limit_20 rfl (lv_at hl 0 rfl) ?_
    refine va_get (C := RNr) (T := TNr) (N := 10) (ci := 1) (v := .int (σ.F 1)) hx hb hg inNr hown hK hP 0 rfl rfl 5 (by decide) (hg _ f_Nr_26) (fun _ h9 => h9) rfl dNr_limit_21 ?_
    refine lv_istore_n (lv' := [(2, .int (σ.F 1)), (0, .ref (a 0)), (1, .int x)]) hx hb dNr_limit_24 rfl hl (by decide) rfl (fun ls hl => ?_)
    refine lv_aload_n hx hb dNr_limit_25 rfl (lv_at hl 1 rfl) ?_
    refine lv_iload_n hx hb dNr_limit_26 rfl (lv_at hl 2 rfl) ?_
    refine va_put (C := RNr) (T := TNr) (N := 10) (ci := 1) (v := .int x) hx hb hg inNr tyNr tyNr_ok nmNr hown hK hP hD hS 0 rfl rfl 5 (by decide) (hg _ f_Nr_26) (fun _ h9 => h9) rfl (tyNr_ok 5 (by decide)) rfl rfl (Nat.le_of_ble_eq_true rfl) dNr_limit_27 (fun H locs hP hD hS => ?_)
    have hP : va_P D gC (nrW cI cP a (σ.sF 1 x)) H := hP
    have hD : va_D A (nrW cI cP a (σ.sF 1 x)) := hD
    refine lv_iload_n hx hb dNr_limit_30 rfl (lv_at hl 0 rfl) ?_
    exact vx_ret (W.widen (k := 1) (n := 6) (by decide) (by decide) (gx_iret (u := σ.sF 1 x) E hK hP hD hS ⟨c_7, rfl, rfl⟩ dNr_limit_31))
  · exact gv_throw (X := xIA) (tx := "no such limit") (is := 70) (ix := 7) (rx := rxIA) E rfl hfl hex hZ hT hK hP hD hS hl.1 rIA0 rIA1 rIA2 rIA5 (by decide) kl_Nr_38 z_IllegalArgumentException (by decide) gx_IA gy_IA go_IA ⟨rfl, c_7⟩ (by decide) (by decide) (by decide) (by decide) (by decide) (by decide) dNr_limit_10 dNr_limit_13 dNr_limit_14 dNr_limit_16 dNr_limit_19
set_option maxHeartbeats 4000000 in
set_option maxRecDepth 100000 in
/-- what a field tells -/
theorem qNr_get (l : Launch) (hfl : l.stackTraces = false) (D : va_G) (cI cP : ClassId) (a : Nat → Nat) (σ : nSt) (pp : Nat → Nat → Nat) (x f : Int32) (h : nInv σ pp) : gv_M l yNr_get (Cond.code yNr_get cNr_get 4 (some .int) :: gW) (gRc 8 1 6) D gC (nrT cI cP) (nrW cI cP a) σ [.ref (a 0), .int x, .int f] (fun r u => ¬ fCl σ.X pp x f = 0 ∧ r = σ.X (fCl σ.X pp x f).toNatClampNeg ∧ u = σ) (fun E => E = xNS ∧ fCl σ.X pp x f = 0) := by
  refine gv_M.of (cc := cNr_get) (maxL := 4) (ret := (some .int)) (by decide) rfl (Nat.le_of_ble_eq_true rfl) ?_
  intro p e s m args below meth c ls A E hex hZ hT hA hK hP hD hS hl
  obtain ⟨hx, hb, hr, hml, hts, hown, hlocks, hnm⟩ := id E
  have hg : ∀ w ∈ gW, w.before args s = true := fun w h => hts w (List.mem_cons_of_mem _ h)
  have hown : s.vm.findClass "NurseryRow" = some m.cls := hown
  have hl : lv_has ls 4 [(0, .ref (a 0)), (1, .int x), (2, .int f)] := hl
  refine lv_aload_n hx hb dNr_get_0 rfl (lv_at hl 0 rfl) ?_
  refine lv_iload_n hx hb dNr_get_1 rfl (lv_at hl 1 rfl) ?_
  refine lv_iload_n hx hb dNr_get_2 rfl (lv_at hl 2 rfl) ?_
  refine gx_callp (C := "NurseryRow") (As := [.int x, .int f]) (rest := []) E (qNr_fieldCell l D cI cP a σ pp x f h) (gx_cwV hts l_Nr_84 k_Nr_fieldCell ki_Nr_fieldCell ke_Nr_fieldCell z_Nr n_Nr_fieldCell ⟨by decide, by decide⟩) hK hP hD (va_recv hK hP (ci := 1) (q0 := 0) rfl rfl) hl.1 rfl rfl (Nat.le_of_ble_eq_true rfl) ⟨Nat.zero_le _, Nat.zero_le _⟩ dNr_get_3 ?_
  refine lv_istore_n (lv' := [(3, .int (fCl σ.X pp x f)), (0, .ref (a 0)), (1, .int x), (2, .int f)]) hx hb dNr_get_6 rfl hl (by decide) rfl (fun ls hl => ?_)
  refine lv_iload_n hx hb dNr_get_7 rfl (lv_at hl 0 rfl) ?_
  refine lv_if_ne (tgt := 21) hx hb dNr_get_8 (by decide) (fun c_8 => ?_) (fun c_8 => ?_)
  · obtain ⟨k, nf, nw, j, hxk, hk1, hkN, hnf, hnw, e0, hfj, hj, hat⟩ := fCl_ne h c_8
    have hN : σ.N < 2 ^ 31 := by have := h.2.2.2.2.2.2.2; omega
    refine lv_aload_n hx hb dNr_get_21 rfl (lv_at hl 1 rfl) ?_
    refine va_get (C := RNr) (T := TNr) (N := 10) (ci := 1) (v := .ref σ.hx) hx hb hg inNr hown hK hP 0 rfl rfl 3 (by decide) (hg _ f_Nr_23) (fun _ h9 => h9) rfl dNr_get_22 ?_
    refine lv_iload_n hx hb dNr_get_25 rfl (lv_at hl 0 rfl) ?_
    refine va_iald hx hb hK hP 8 0 rfl rfl (by rw [hat]; exact vp_in_nI (by omega) hN) dNr_get_26 ?_
    exact vx_ret (W.widen (k := 1) (n := 6) (by decide) (by decide) (gx_iret (u := σ) E hK hP hD hS ⟨c_8, rfl, rfl⟩ dNr_get_27))
  · exact gv_throw (X := xNS) (tx := "no such object or field") (is := 94) (ix := 13) (rx := rxNS) E rfl hfl hex hZ hT hK hP hD hS hl.1 rNS0 rNS1 rNS2 rNS5 (by decide) kl_Nr_92 z_NoSuchElementException (by decide) gx_NS gy_NS go_NS ⟨rfl, c_8⟩ (by decide) (by decide) (by decide) (by decide) (by decide) (by decide) dNr_get_11 dNr_get_14 dNr_get_15 dNr_get_17 dNr_get_20
set_option maxHeartbeats 4000000 in
set_option maxRecDepth 100000 in
/-- a word -/
theorem qNr_word (l : Launch) (hfl : l.stackTraces = false) (D : va_G) (cI cP : ClassId) (a : Nat → Nat) (σ : nSt) (pp : Nat → Nat → Nat) (x f : Int32) (h : nInv σ pp) : gv_M l yNr_word (Cond.code yNr_word cNr_word 4 (some .int) :: gW) (gRc 8 1 6) D gC (nrT cI cP) (nrW cI cP a) σ [.ref (a 0), .int x, .int f] (fun r u => ¬ wCl σ.X pp x f = 0 ∧ r = σ.X (wCl σ.X pp x f).toNatClampNeg ∧ u = σ) (fun E => E = xNS ∧ wCl σ.X pp x f = 0) := by
  refine gv_M.of (cc := cNr_word) (maxL := 4) (ret := (some .int)) (by decide) rfl (Nat.le_of_ble_eq_true rfl) ?_
  intro p e s m args below meth c ls A E hex hZ hT hA hK hP hD hS hl
  obtain ⟨hx, hb, hr, hml, hts, hown, hlocks, hnm⟩ := id E
  have hg : ∀ w ∈ gW, w.before args s = true := fun w h => hts w (List.mem_cons_of_mem _ h)
  have hown : s.vm.findClass "NurseryRow" = some m.cls := hown
  have hl : lv_has ls 4 [(0, .ref (a 0)), (1, .int x), (2, .int f)] := hl
  refine lv_aload_n hx hb dNr_word_0 rfl (lv_at hl 0 rfl) ?_
  refine lv_iload_n hx hb dNr_word_1 rfl (lv_at hl 1 rfl) ?_
  refine lv_iload_n hx hb dNr_word_2 rfl (lv_at hl 2 rfl) ?_
  refine gx_callp (C := "NurseryRow") (As := [.int x, .int f]) (rest := []) E (qNr_wordCell l D cI cP a σ pp x f h) (gx_cwV hts l_Nr_100 k_Nr_wordCell ki_Nr_wordCell ke_Nr_wordCell z_Nr n_Nr_wordCell ⟨by decide, by decide⟩) hK hP hD (va_recv hK hP (ci := 1) (q0 := 0) rfl rfl) hl.1 rfl rfl (Nat.le_of_ble_eq_true rfl) ⟨Nat.zero_le _, Nat.zero_le _⟩ dNr_word_3 ?_
  refine lv_istore_n (lv' := [(3, .int (wCl σ.X pp x f)), (0, .ref (a 0)), (1, .int x), (2, .int f)]) hx hb dNr_word_6 rfl hl (by decide) rfl (fun ls hl => ?_)
  refine lv_iload_n hx hb dNr_word_7 rfl (lv_at hl 0 rfl) ?_
  refine lv_if_ne (tgt := 21) hx hb dNr_word_8 (by decide) (fun c_8 => ?_) (fun c_8 => ?_)
  · obtain ⟨k, nf, nw, j, hxk, hk1, hkN, hnf, hnw, e0, e1, hfj, hj, hat⟩ := wCl_ne h c_8
    have hN : σ.N < 2 ^ 31 := by have := h.2.2.2.2.2.2.2; omega
    refine lv_aload_n hx hb dNr_word_21 rfl (lv_at hl 1 rfl) ?_
    refine va_get (C := RNr) (T := TNr) (N := 10) (ci := 1) (v := .ref σ.hx) hx hb hg inNr hown hK hP 0 rfl rfl 3 (by decide) (hg _ f_Nr_23) (fun _ h9 => h9) rfl dNr_word_22 ?_
    refine lv_iload_n hx hb dNr_word_25 rfl (lv_at hl 0 rfl) ?_
    refine va_iald hx hb hK hP 8 0 rfl rfl (by rw [hat]; exact vp_in_nI (by omega) hN) dNr_word_26 ?_
    exact vx_ret (W.widen (k := 1) (n := 6) (by decide) (by decide) (gx_iret (u := σ) E hK hP hD hS ⟨c_8, rfl, rfl⟩ dNr_word_27))
  · exact gv_throw (X := xNS) (tx := "no such object or word") (is := 103) (ix := 13) (rx := rxNS) E rfl hfl hex hZ hT hK hP hD hS hl.1 rNS0 rNS1 rNS2 rNS5 (by decide) kl_Nr_92 z_NoSuchElementException (by decide) gx_NS gy_NS go_NS ⟨rfl, c_8⟩ (by decide) (by decide) (by decide) (by decide) (by decide) (by decide) dNr_word_11 dNr_word_14 dNr_word_15 dNr_word_17 dNr_word_20
set_option maxHeartbeats 4000000 in
set_option maxRecDepth 100000 in
/-- a field becomes b -/
theorem qNr_set (l : Launch) (hfl : l.stackTraces = false) (D : va_G) (cI cP : ClassId) (a : Nat → Nat) (σ : nSt) (pp : Nat → Nat → Nat) (x f b : Int32) (h : nInv σ pp) : gv_M l yNr_set (Cond.code yNr_set cNr_set 5 (some .int) :: gW) (gRc 8 1 6) D gC (nrT cI cP) (nrW cI cP a) σ [.ref (a 0), .int x, .int f, .int b] (fun r u => ¬ fCl σ.X pp x f = 0 ∧ ¬ isNO σ.X pp b = 0 ∧ r = σ.X (fCl σ.X pp x f).toNatClampNeg ∧ u = σ.sX (upd σ.X (fCl σ.X pp x f).toNatClampNeg b)) (fun E => E = xNS ∧ (fCl σ.X pp x f = 0 ∨ isNO σ.X pp b = 0)) := by
  refine gv_M.of (cc := cNr_set) (maxL := 5) (ret := (some .int)) (by decide) rfl (Nat.le_of_ble_eq_true rfl) ?_
  intro p e s m args below meth c ls A E hex hZ hT hA hK hP hD hS hl
  obtain ⟨hx, hb, hr, hml, hts, hown, hlocks, hnm⟩ := id E
  have hg : ∀ w ∈ gW, w.before args s = true := fun w h => hts w (List.mem_cons_of_mem _ h)
  have hown : s.vm.findClass "NurseryRow" = some m.cls := hown
  have hl : lv_has ls 5 [(0, .ref (a 0)), (1, .int x), (2, .int f), (3, .int b)] := hl
  refine lv_aload_n hx hb dNr_set_0 rfl (lv_at hl 0 rfl) ?_
  refine lv_iload_n hx hb dNr_set_1 rfl (lv_at hl 1 rfl) ?_
  refine lv_iload_n hx hb dNr_set_2 rfl (lv_at hl 2 rfl) ?_
  refine gx_callp (C := "NurseryRow") (As := [.int x, .int f]) (rest := []) E (qNr_fieldCell l D cI cP a σ pp x f h) (gx_cwV hts l_Nr_84 k_Nr_fieldCell ki_Nr_fieldCell ke_Nr_fieldCell z_Nr n_Nr_fieldCell ⟨by decide, by decide⟩) hK hP hD (va_recv hK hP (ci := 1) (q0 := 0) rfl rfl) hl.1 rfl rfl (Nat.le_of_ble_eq_true rfl) ⟨Nat.zero_le _, Nat.zero_le _⟩ dNr_set_3 ?_
  refine lv_istore (lv' := [(4, .int (fCl σ.X pp x f)), (0, .ref (a 0)), (1, .int x), (2, .int f), (3, .int b)]) hx hb dNr_set_6 hl (by decide) rfl (fun ls hl => ?_)
  refine lv_iload hx hb dNr_set_8 (lv_at hl 0 rfl) ?_
  refine lv_if_eq (tgt := 21) hx hb dNr_set_10 (by decide) (fun c_10 => ?_) (fun c_10 => ?_)
  · exact gv_throw (X := xNS) (tx := "no such object or field") (is := 94) (ix := 13) (rx := rxNS) E rfl hfl hex hZ hT hK hP hD hS hl.1 rNS0 rNS1 rNS2 rNS5 (by decide) kl_Nr_92 z_NoSuchElementException (by decide) gx_NS gy_NS go_NS ⟨rfl, Or.inl c_10⟩ (by decide) (by decide) (by decide) (by decide) (by decide) (by decide) dNr_set_21 dNr_set_24 dNr_set_25 dNr_set_27 dNr_set_30
  · refine lv_aload_n hx hb dNr_set_13 rfl (lv_at hl 1 rfl) ?_
    refine lv_iload_n hx hb dNr_set_14 rfl (lv_at hl 4 rfl) ?_
    refine gx_callp (C := "NurseryRow") (As := [.int b]) (rest := []) E (qNr_isNothingOrObject l D cI cP a σ pp b h) (gx_cwV hts l_Nr_88 k_Nr_isNothingOrObject ki_Nr_isNothingOrObject ke_Nr_isNothingOrObject z_Nr n_Nr_isNothingOrObject ⟨by decide, by decide⟩) hK hP hD (va_recv hK hP (ci := 1) (q0 := 0) rfl rfl) hl.1 rfl rfl (Nat.le_of_ble_eq_true rfl) ⟨Nat.zero_le _, Nat.zero_le _⟩ dNr_set_15 ?_
    refine lv_if_ne (tgt := 31) hx hb dNr_set_18 (by decide) (fun c_18 => ?_) (fun c_18 => ?_)
    · obtain ⟨k, nf, nw, j, hxk, hk1, hkN, hnf, hnw, e0, hfj, hj, hat⟩ := fCl_ne h c_10
      have hN : σ.N < 2 ^ 31 := by have := h.2.2.2.2.2.2.2; omega
      refine lv_aload_n hx hb dNr_set_31 rfl (lv_at hl 1 rfl) ?_
      refine lv_iload hx hb dNr_set_32 (lv_at hl 0 rfl) ?_
      refine lv_iload_n hx hb dNr_set_34 rfl (lv_at hl 4 rfl) ?_
      refine gx_stk (st' := [.int b, .int (nI (k + 3 + j)), .ref (a 0)]) (by rw [hat]) ?_
      refine gx_calli (C := "NurseryRow") (As := [.int (nI (k + 3 + j)), .int b]) (rest := []) E (qNr_exchange l D cI cP a σ (k + 3 + j) b (by omega) hN) (gx_cwV hts l_Nr_97 k_Nr_exchange ki_Nr_exchange ke_Nr_exchange z_Nr n_Nr_exchange ⟨by decide, by decide⟩) hK hP hD hS hA (va_recv hK hP (ci := 1) (q0 := 0) rfl rfl) hl.1 rfl rfl (Nat.le_of_ble_eq_true rfl) ⟨by decide, by decide⟩ dNr_set_35 (fun r_1 u_2 H locs hq_3 hP hD hS => ?_)
      obtain ⟨hr1, hu1⟩ := hq_3
      subst hr1; subst hu1
      exact vx_ret (W.widen (k := 1) (n := 6) (by decide) (by decide) (gx_iret (u := σ.sX (upd σ.X (k + 3 + j) b)) E hK hP hD hS ⟨c_10, c_18, (by rw [hat, nI_clamp (by omega)]), (by rw [hat, nI_clamp (by omega)])⟩ dNr_set_38))
    · exact gv_throw (X := xNS) (tx := "no such object or field") (is := 94) (ix := 13) (rx := rxNS) E rfl hfl hex hZ hT hK hP hD hS hl.1 rNS0 rNS1 rNS2 rNS5 (by decide) kl_Nr_92 z_NoSuchElementException (by decide) gx_NS gy_NS go_NS ⟨rfl, Or.inr c_18⟩ (by decide) (by decide) (by decide) (by decide) (by decide) (by decide) dNr_set_21 dNr_set_24 dNr_set_25 dNr_set_27 dNr_set_30
set_option maxHeartbeats 4000000 in
set_option maxRecDepth 100000 in
/-- a word becomes b -/
theorem qNr_put (l : Launch) (hfl : l.stackTraces = false) (D : va_G) (cI cP : ClassId) (a : Nat → Nat) (σ : nSt) (pp : Nat → Nat → Nat) (x f b : Int32) (h : nInv σ pp) : gv_M l yNr_put (Cond.code yNr_put cNr_put 5 (some .int) :: gW) (gRc 8 1 6) D gC (nrT cI cP) (nrW cI cP a) σ [.ref (a 0), .int x, .int f, .int b] (fun r u => ¬ wCl σ.X pp x f = 0 ∧ r = σ.X (wCl σ.X pp x f).toNatClampNeg ∧ u = σ.sX (upd σ.X (wCl σ.X pp x f).toNatClampNeg b)) (fun E => E = xNS ∧ wCl σ.X pp x f = 0) := by
  refine gv_M.of (cc := cNr_put) (maxL := 5) (ret := (some .int)) (by decide) rfl (Nat.le_of_ble_eq_true rfl) ?_
  intro p e s m args below meth c ls A E hex hZ hT hA hK hP hD hS hl
  obtain ⟨hx, hb, hr, hml, hts, hown, hlocks, hnm⟩ := id E
  have hg : ∀ w ∈ gW, w.before args s = true := fun w h => hts w (List.mem_cons_of_mem _ h)
  have hown : s.vm.findClass "NurseryRow" = some m.cls := hown
  have hl : lv_has ls 5 [(0, .ref (a 0)), (1, .int x), (2, .int f), (3, .int b)] := hl
  refine lv_aload_n hx hb dNr_put_0 rfl (lv_at hl 0 rfl) ?_
  refine lv_iload_n hx hb dNr_put_1 rfl (lv_at hl 1 rfl) ?_
  refine lv_iload_n hx hb dNr_put_2 rfl (lv_at hl 2 rfl) ?_
  refine gx_callp (C := "NurseryRow") (As := [.int x, .int f]) (rest := []) E (qNr_wordCell l D cI cP a σ pp x f h) (gx_cwV hts l_Nr_100 k_Nr_wordCell ki_Nr_wordCell ke_Nr_wordCell z_Nr n_Nr_wordCell ⟨by decide, by decide⟩) hK hP hD (va_recv hK hP (ci := 1) (q0 := 0) rfl rfl) hl.1 rfl rfl (Nat.le_of_ble_eq_true rfl) ⟨Nat.zero_le _, Nat.zero_le _⟩ dNr_put_3 ?_
  refine lv_istore (lv' := [(4, .int (wCl σ.X pp x f)), (0, .ref (a 0)), (1, .int x), (2, .int f), (3, .int b)]) hx hb dNr_put_6 hl (by decide) rfl (fun ls hl => ?_)
  refine lv_iload hx hb dNr_put_8 (lv_at hl 0 rfl) ?_
  refine lv_if_ne (tgt := 23) hx hb dNr_put_10 (by decide) (fun c_10 => ?_) (fun c_10 => ?_)
  · obtain ⟨k, nf, nw, j, hxk, hk1, hkN, hnf, hnw, e0, e1, hfj, hj, hat⟩ := wCl_ne h c_10
    have hN : σ.N < 2 ^ 31 := by have := h.2.2.2.2.2.2.2; omega
    refine lv_aload_n hx hb dNr_put_23 rfl (lv_at hl 1 rfl) ?_
    refine lv_iload hx hb dNr_put_24 (lv_at hl 0 rfl) ?_
    refine lv_iload_n hx hb dNr_put_26 rfl (lv_at hl 4 rfl) ?_
    refine gx_stk (st' := [.int b, .int (nI (k + 3 + nf + j)), .ref (a 0)]) (by rw [hat]) ?_
    refine gx_calli (C := "NurseryRow") (As := [.int (nI (k + 3 + nf + j)), .int b]) (rest := []) E (qNr_exchange l D cI cP a σ (k + 3 + nf + j) b (by omega) hN) (gx_cwV hts l_Nr_97 k_Nr_exchange ki_Nr_exchange ke_Nr_exchange z_Nr n_Nr_exchange ⟨by decide, by decide⟩) hK hP hD hS hA (va_recv hK hP (ci := 1) (q0 := 0) rfl rfl) hl.1 rfl rfl (Nat.le_of_ble_eq_true rfl) ⟨by decide, by decide⟩ dNr_put_27 (fun r_1 u_2 H locs hq_3 hP hD hS => ?_)
    obtain ⟨hr1, hu1⟩ := hq_3
    subst hr1; subst hu1
    exact vx_ret (W.widen (k := 1) (n := 6) (by decide) (by decide) (gx_iret (u := σ.sX (upd σ.X (k + 3 + nf + j) b)) E hK hP hD hS ⟨c_10, (by rw [hat, nI_clamp (by omega)]), (by rw [hat, nI_clamp (by omega)])⟩ dNr_put_30))
  · exact gv_throw (X := xNS) (tx := "no such object or word") (is := 103) (ix := 13) (rx := rxNS) E rfl hfl hex hZ hT hK hP hD hS hl.1 rNS0 rNS1 rNS2 rNS5 (by decide) kl_Nr_92 z_NoSuchElementException (by decide) gx_NS gy_NS go_NS ⟨rfl, c_10⟩ (by decide) (by decide) (by decide) (by decide) (by decide) (by decide) dNr_put_13 dNr_put_16 dNr_put_17 dNr_put_19 dNr_put_22
set_option maxHeartbeats 4000000 in
set_option maxRecDepth 100000 in
/-- what a root tells -/
theorem qNr_rooted (l : Launch) (hfl : l.stackTraces = false) (D : va_G) (cI cP : ClassId) (a : Nat → Nat) (σ : nSt) (x : Int32) : gv_M l yNr_rooted (Cond.code yNr_rooted cNr_rooted 2 (some .int) :: gW) (gRc 8 1 6) D gC (nrT cI cP) (nrW cI cP a) σ [.ref (a 0), .int x] (fun r u => ¬ isR x = 0 ∧ r = σ.R x.toNatClampNeg ∧ u = σ) (fun E => E = xNS ∧ isR x = 0) := by
  refine gv_M.of (cc := cNr_rooted) (maxL := 2) (ret := (some .int)) (by decide) rfl (Nat.le_of_ble_eq_true rfl) ?_
  intro p e s m args below meth c ls A E hex hZ hT hA hK hP hD hS hl
  obtain ⟨hx, hb, hr, hml, hts, hown, hlocks, hnm⟩ := id E
  have hg : ∀ w ∈ gW, w.before args s = true := fun w h => hts w (List.mem_cons_of_mem _ h)
  have hown : s.vm.findClass "NurseryRow" = some m.cls := hown
  have hl : lv_has ls 2 [(0, .ref (a 0)), (1, .int x)] := hl
  refine lv_iload_n hx hb dNr_rooted_0 rfl (lv_at hl 1 rfl) ?_
  refine gx_callps (As := [.int x]) (rest := []) E (qNr_isRoot l D _ _ x) (gx_cwS hts l_Nr_105 k_Nr_isRoot kt_Nr_isRoot z_Nr n_Nr_isRoot ⟨by decide, by decide⟩) hK hP hD hl.1 rfl rfl (Nat.le_of_ble_eq_true rfl) ⟨Nat.zero_le _, Nat.zero_le _⟩ dNr_rooted_1 ?_
  refine lv_if_ne (tgt := 17) hx hb dNr_rooted_4 (by decide) (fun c_4 => ?_) (fun c_4 => ?_)
  · obtain ⟨t, hxt, ht⟩ := isR_ne c_4
    refine lv_aload_n hx hb dNr_rooted_17 rfl (lv_at hl 0 rfl) ?_
    refine va_get (C := RNr) (T := TNr) (N := 10) (ci := 1) (v := .ref (a 6)) hx hb hg inNr hown hK hP 0 rfl rfl 1 (by decide) (hg _ f_Nr_16) (fun _ h9 => h9) rfl dNr_rooted_18 ?_
    refine lv_iload_n hx hb dNr_rooted_21 rfl (lv_at hl 1 rfl) ?_
    refine va_iald hx hb hK hP 6 0 rfl rfl (by rw [hxt]; exact vp_in_nI ht (by decide)) dNr_rooted_22 ?_
    exact vx_ret (W.widen (k := 1) (n := 6) (by decide) (by decide) (gx_iret (u := σ) E hK hP hD hS ⟨c_4, rfl, rfl⟩ dNr_rooted_23))
  · exact gv_throw (X := xNS) (tx := "no such root") (is := 110) (ix := 13) (rx := rxNS) E rfl hfl hex hZ hT hK hP hD hS hl.1 rNS0 rNS1 rNS2 rNS5 (by decide) kl_Nr_92 z_NoSuchElementException (by decide) gx_NS gy_NS go_NS ⟨rfl, c_4⟩ (by decide) (by decide) (by decide) (by decide) (by decide) (by decide) dNr_rooted_7 dNr_rooted_10 dNr_rooted_11 dNr_rooted_13 dNr_rooted_16
set_option maxHeartbeats 4000000 in
set_option maxRecDepth 100000 in
/-- a root becomes b -/
theorem qNr_root (l : Launch) (hfl : l.stackTraces = false) (D : va_G) (cI cP : ClassId) (a : Nat → Nat) (σ : nSt) (pp : Nat → Nat → Nat) (x b : Int32) (h : nInv σ pp) : gv_M l yNr_root (Cond.code yNr_root cNr_root 4 (some .int) :: gW) (gRc 8 1 6) D gC (nrT cI cP) (nrW cI cP a) σ [.ref (a 0), .int x, .int b] (fun r u => ¬ isR x = 0 ∧ ¬ isNO σ.X pp b = 0 ∧ r = σ.R x.toNatClampNeg ∧ u = σ.sR (upd σ.R x.toNatClampNeg b)) (fun E => E = xNS ∧ (isR x = 0 ∨ isNO σ.X pp b = 0)) := by
  refine gv_M.of (cc := cNr_root) (maxL := 4) (ret := (some .int)) (by decide) rfl (Nat.le_of_ble_eq_true rfl) ?_
  intro p e s m args below meth c ls A E hex hZ hT hA hK hP hD hS hl
  obtain ⟨hx, hb, hr, hml, hts, hown, hlocks, hnm⟩ := id E
  have hg : ∀ w ∈ gW, w.before args s = true := fun w h => hts w (List.mem_cons_of_mem _ h)
  have hown : s.vm.findClass "NurseryRow" = some m.cls := hown
  have hl : lv_has ls 4 [(0, .ref (a 0)), (1, .int x), (2, .int b)] := hl
  refine lv_iload_n hx hb dNr_root_0 rfl (lv_at hl 1 rfl) ?_
  refine gx_callps (As := [.int x]) (rest := []) E (qNr_isRoot l D _ _ x) (gx_cwS hts l_Nr_105 k_Nr_isRoot kt_Nr_isRoot z_Nr n_Nr_isRoot ⟨by decide, by decide⟩) hK hP hD hl.1 rfl rfl (Nat.le_of_ble_eq_true rfl) ⟨Nat.zero_le _, Nat.zero_le _⟩ dNr_root_1 ?_
  refine lv_if_eq (tgt := 15) hx hb dNr_root_4 (by decide) (fun c_4 => ?_) (fun c_4 => ?_)
  · exact gv_throw (X := xNS) (tx := "no such root or object") (is := 108) (ix := 13) (rx := rxNS) E rfl hfl hex hZ hT hK hP hD hS hl.1 rNS0 rNS1 rNS2 rNS5 (by decide) kl_Nr_92 z_NoSuchElementException (by decide) gx_NS gy_NS go_NS ⟨rfl, Or.inl c_4⟩ (by decide) (by decide) (by decide) (by decide) (by decide) (by decide) dNr_root_15 dNr_root_18 dNr_root_19 dNr_root_21 dNr_root_24
  · refine lv_aload_n hx hb dNr_root_7 rfl (lv_at hl 0 rfl) ?_
    refine lv_iload_n hx hb dNr_root_8 rfl (lv_at hl 2 rfl) ?_
    refine gx_callp (C := "NurseryRow") (As := [.int b]) (rest := []) E (qNr_isNothingOrObject l D cI cP a σ pp b h) (gx_cwV hts l_Nr_88 k_Nr_isNothingOrObject ki_Nr_isNothingOrObject ke_Nr_isNothingOrObject z_Nr n_Nr_isNothingOrObject ⟨by decide, by decide⟩) hK hP hD (va_recv hK hP (ci := 1) (q0 := 0) rfl rfl) hl.1 rfl rfl (Nat.le_of_ble_eq_true rfl) ⟨Nat.zero_le _, Nat.zero_le _⟩ dNr_root_9 ?_
    refine lv_if_ne (tgt := 25) hx hb dNr_root_12 (by decide) (fun c_12 => ?_) (fun c_12 => ?_)
    · obtain ⟨t, hxt, ht⟩ := isR_ne c_4
      refine lv_aload_n hx hb dNr_root_25 rfl (lv_at hl 0 rfl) ?_
      refine va_get (C := RNr) (T := TNr) (N := 10) (ci := 1) (v := .ref (a 6)) hx hb hg inNr hown hK hP 0 rfl rfl 1 (by decide) (hg _ f_Nr_16) (fun _ h9 => h9) rfl dNr_root_26 ?_
      refine lv_iload_n hx hb dNr_root_29 rfl (lv_at hl 1 rfl) ?_
      refine va_iald hx hb hK hP 6 0 rfl rfl (by rw [hxt]; exact vp_in_nI ht (by decide)) dNr_root_30 ?_
      refine lv_istore_n (lv' := [(3, .int (σ.R x.toNatClampNeg)), (0, .ref (a 0)), (1, .int x), (2, .int b)]) hx hb dNr_root_31 rfl hl (by decide) rfl (fun ls hl => ?_)
      refine lv_aload_n hx hb dNr_root_32 rfl (lv_at hl 1 rfl) ?_
      refine va_get (C := RNr) (T := TNr) (N := 10) (ci := 1) (v := .ref (a 6)) hx hb hg inNr hown hK hP 0 rfl rfl 1 (by decide) (hg _ f_Nr_16) (fun _ h9 => h9) rfl dNr_root_33 ?_
      refine lv_iload_n hx hb dNr_root_36 rfl (lv_at hl 2 rfl) ?_
      refine lv_iload_n hx hb dNr_root_37 rfl (lv_at hl 3 rfl) ?_
      refine va_iast hx hb hK hP hD hS 6 0 rfl rfl (by rw [hxt]; exact vp_in_nI ht (by decide)) dNr_root_38 (fun H locs hP hD hS => ?_)
      have hP : va_P D gC (nrW cI cP a (σ.sR (upd σ.R x.toNatClampNeg b))) H := hP
      have hD : va_D A (nrW cI cP a (σ.sR (upd σ.R x.toNatClampNeg b))) := hD
      refine lv_iload_n hx hb dNr_root_39 rfl (lv_at hl 0 rfl) ?_
      exact vx_ret (W.widen (k := 1) (n := 6) (by decide) (by decide) (gx_iret (u := σ.sR (upd σ.R x.toNatClampNeg b)) E hK hP hD hS ⟨c_4, c_12, rfl, rfl⟩ dNr_root_40))
    · exact gv_throw (X := xNS) (tx := "no such root or object") (is := 108) (ix := 13) (rx := rxNS) E rfl hfl hex hZ hT hK hP hD hS hl.1 rNS0 rNS1 rNS2 rNS5 (by decide) kl_Nr_92 z_NoSuchElementException (by decide) gx_NS gy_NS go_NS ⟨rfl, Or.inr c_12⟩ (by decide) (by decide) (by decide) (by decide) (by decide) (by decide) dNr_root_15 dNr_root_18 dNr_root_19 dNr_root_21 dNr_root_24
end
section
/-! THE PUBLIC METHODS, second half -/
set_option maxHeartbeats 4000000 in
set_option maxRecDepth 100000 in
/-- about an object -/
theorem qNr_about (l : Launch) (hfl : l.stackTraces = false) (D : va_G) (cI cP : ClassId) (a : Nat → Nat) (σ : nSt) (pp : Nat → Nat → Nat) (x w : Int32) (h : nInv σ pp) : gv_M l yNr_about (Cond.code yNr_about cNr_about 3 (some .int) :: gW) (gRc 8 1 6) D gC (nrT cI cP) (nrW cI cP a) σ [.ref (a 0), .int x, .int w] (fun r u => ¬ isOb σ.X pp x = 0 ∧ ∃ j, j ≤ 3 ∧ w = nI j ∧ r = abA σ x j ∧ u = σ) (fun E => (E = xNS ∧ isOb σ.X pp x = 0) ∨ (E = xIA ∧ ¬ isOb σ.X pp x = 0 ∧ (w.toInt < 0 ∨ 3 < w.toInt))) := by
  refine gv_M.of (cc := cNr_about) (maxL := 3) (ret := (some .int)) (by decide) rfl (Nat.le_of_ble_eq_true rfl) ?_
  intro p e s m args below meth c ls A E hex hZ hT hA hK hP hD hS hl
  obtain ⟨hx, hb, hr, hml, hts, hown, hlocks, hnm⟩ := id E
  have hg : ∀ w ∈ gW, w.before args s = true := fun w h => hts w (List.mem_cons_of_mem _ h)
  have hown : s.vm.findClass "NurseryRow" = some m.cls := hown
  have hl : lv_has ls 3 [(0, .ref (a 0)), (1, .int x), (2, .int w)] := hl
  refine lv_aload_n hx hb dNr_about_0 rfl (lv_at hl 0 rfl) ?_
  refine lv_iload_n hx hb dNr_about_1 rfl (lv_at hl 1 rfl) ?_
  refine gx_callp (C := "NurseryRow") (As := [.int x]) (rest := []) E (qNr_isObject l D cI cP a σ pp x h) (gx_cwV hts l_Nr_139 k_Nr_isObject ki_Nr_isObject ke_Nr_isObject z_Nr n_Nr_isObject ⟨by decide, by decide⟩) hK hP hD (va_recv hK hP (ci := 1) (q0 := 0) rfl rfl) hl.1 rfl rfl (Nat.le_of_ble_eq_true rfl) ⟨Nat.zero_le _, Nat.zero_le _⟩ dNr_about_2 ?_
  refine lv_if_ne (tgt := 18) hx hb dNr_about_5 (by decide) (fun c_5 => ?_) (fun c_5 => ?_)
  · obtain ⟨k, nf, nw, hxk, hk1, hkN, hnf, hnw, e0, e1⟩ := isOb_ad h c_5
    have hN : σ.N < 2 ^ 31 := by have := h.2.2.2.2.2.2.2; omega
    refine lv_iload_n hx hb dNr_about_18 rfl (lv_at hl 2 rfl) ?_
    rcases tsw w 3 (by decide) with ht | ⟨jw, hjw, hxw⟩
    · refine lv_tableOut (tgt := 79) hx hb dNr_about_19 ht (by decide) ?_
      exact gv_throw (X := xIA) (tx := "nothing of that kind is told") (is := 145) (ix := 7) (rx := rxIA) E rfl hfl hex hZ hT hK hP hD hS hl.1 rIA0 rIA1 rIA2 rIA5 (by decide) kl_Nr_38 z_IllegalArgumentException (by decide) gx_IA gy_IA go_IA (Or.inr ⟨rfl, c_5, ht⟩) (by decide) (by decide) (by decide) (by decide) (by decide) (by decide) dNr_about_79 dNr_about_82 dNr_about_83 dNr_about_85 dNr_about_88
    · rcases (show jw = 0 ∨ jw = 1 ∨ jw = 2 ∨ jw = 3 by omega) with rfl | rfl | rfl | rfl
      · refine gx_top (z := 0) hxw ?_
        refine lv_tableIn (tgt := 48) hx hb dNr_about_19 (by decide) (by decide) rfl (by decide) ?_
        refine lv_aload_n hx hb dNr_about_48 rfl (lv_at hl 0 rfl) ?_
        refine va_get (C := RNr) (T := TNr) (N := 10) (ci := 1) (v := .ref σ.hx) hx hb hg inNr hown hK hP 0 rfl rfl 3 (by decide) (hg _ f_Nr_23) (fun _ h9 => h9) rfl dNr_about_49 ?_
        refine lv_iload_n hx hb dNr_about_52 rfl (lv_at hl 1 rfl) ?_
        refine lv_iconst (v := 2) hx hb dNr_about_53 (by decide) ?_
        refine lv_iadd hx hb dNr_about_54 ?_
        refine va_iald hx hb hK hP 8 0 rfl rfl (by rw [hxk, show (2 : Int32) = nI 2 from rfl, nI_add]; exact vp_in_nI (by omega) hN) dNr_about_55 ?_
        refine gx_top (z := σ.X (x.toNatClampNeg + 2)) (by rw [hxk, show (2 : Int32) = nI 2 from rfl, nI_add, nI_clamp (by omega), nI_clamp (by omega)]) ?_
        exact vx_ret (W.widen (k := 1) (n := 6) (by decide) (by decide) (gx_iret (u := σ) E hK hP hD hS ⟨c_5, 0, by decide, hxw, rfl, rfl⟩ dNr_about_56))
      · refine gx_top (z := 1) hxw ?_
        refine lv_tableIn (tgt := 57) hx hb dNr_about_19 (by decide) (by decide) rfl (by decide) ?_
        refine lv_aload_n hx hb dNr_about_57 rfl (lv_at hl 0 rfl) ?_
        refine va_get (C := RNr) (T := TNr) (N := 10) (ci := 1) (v := .ref σ.hx) hx hb hg inNr hown hK hP 0 rfl rfl 3 (by decide) (hg _ f_Nr_23) (fun _ h9 => h9) rfl dNr_about_58 ?_
        refine lv_iload_n hx hb dNr_about_61 rfl (lv_at hl 1 rfl) ?_
        refine va_iald hx hb hK hP 8 0 rfl rfl (by rw [hxk]; exact vp_in_nI (by omega) hN) dNr_about_62 ?_
        exact vx_ret (W.widen (k := 1) (n := 6) (by decide) (by decide) (gx_iret (u := σ) E hK hP hD hS ⟨c_5, 1, by decide, hxw, rfl, rfl⟩ dNr_about_63))
      · refine gx_top (z := 2) hxw ?_
        refine lv_tableIn (tgt := 64) hx hb dNr_about_19 (by decide) (by decide) rfl (by decide) ?_
        refine lv_aload_n hx hb dNr_about_64 rfl (lv_at hl 0 rfl) ?_
        refine va_get (C := RNr) (T := TNr) (N := 10) (ci := 1) (v := .ref σ.hx) hx hb hg inNr hown hK hP 0 rfl rfl 3 (by decide) (hg _ f_Nr_23) (fun _ h9 => h9) rfl dNr_about_65 ?_
        refine lv_iload_n hx hb dNr_about_68 rfl (lv_at hl 1 rfl) ?_
        refine lv_iconst (v := 1) hx hb dNr_about_69 (by decide) ?_
        refine lv_iadd hx hb dNr_about_70 ?_
        refine va_iald hx hb hK hP 8 0 rfl rfl (by rw [hxk, show (1 : Int32) = nI 1 from rfl, nI_add]; exact vp_in_nI (by omega) hN) dNr_about_71 ?_
        refine gx_top (z := σ.X (x.toNatClampNeg + 1)) (by rw [hxk, show (1 : Int32) = nI 1 from rfl, nI_add, nI_clamp (by omega), nI_clamp (by omega)]) ?_
        exact vx_ret (W.widen (k := 1) (n := 6) (by decide) (by decide) (gx_iret (u := σ) E hK hP hD hS ⟨c_5, 2, by decide, hxw, rfl, rfl⟩ dNr_about_72))
      · refine gx_top (z := 3) hxw ?_
        refine lv_tableIn (tgt := 73) hx hb dNr_about_19 (by decide) (by decide) rfl (by decide) ?_
        refine lv_aload_n hx hb dNr_about_73 rfl (lv_at hl 0 rfl) ?_
        refine lv_iload_n hx hb dNr_about_74 rfl (lv_at hl 1 rfl) ?_
        refine gx_callp (C := "NurseryRow") (As := [.int x]) (rest := []) E (qNr_partOf l D cI cP a σ x) (gx_cwV hts l_Nr_142 k_Nr_partOf ki_Nr_partOf ke_Nr_partOf z_Nr n_Nr_partOf ⟨by decide, by decide⟩) hK hP hD (va_recv hK hP (ci := 1) (q0 := 0) rfl rfl) hl.1 rfl rfl (Nat.le_of_ble_eq_true rfl) ⟨Nat.zero_le _, Nat.zero_le _⟩ dNr_about_75 ?_
        exact vx_ret (W.widen (k := 1) (n := 6) (by decide) (by decide) (gx_iret (u := σ) E hK hP hD hS ⟨c_5, 3, by decide, hxw, rfl, rfl⟩ dNr_about_78))
  · exact gv_throw (X := xNS) (tx := "no such object") (is := 72) (ix := 13) (rx := rxNS) E rfl hfl hex hZ hT hK hP hD hS hl.1 rNS0 rNS1 rNS2 rNS5 (by decide) kl_Nr_92 z_NoSuchElementException (by decide) gx_NS gy_NS go_NS (Or.inl ⟨rfl, c_5⟩) (by decide) (by decide) (by decide) (by decide) (by decide) (by decide) dNr_about_8 dNr_about_11 dNr_about_12 dNr_about_14 dNr_about_17
set_option maxHeartbeats 4000000 in
set_option maxRecDepth 100000 in
/-- counts -/
theorem qNr_count (l : Launch) (hfl : l.stackTraces = false) (D : va_G) (cI cP : ClassId) (a : Nat → Nat) (σ : nSt) (c0 : Nat) (w : Int32) (hrw : rwI σ c0) : gv_M l yNr_count (Cond.code yNr_count cNr_count 2 (some .int) :: gW) (gRc 8 1 6) D gC (nrT cI cP) (nrW cI cP a) σ [.ref (a 0), .int w] (fun r u => ∃ j, j ≤ 9 ∧ w = nI j ∧ r = cnA σ c0 j ∧ u = σ) (fun E => E = xIA ∧ (w.toInt < 0 ∨ 9 < w.toInt)) := by
  refine gv_M.of (cc := cNr_count) (maxL := 2) (ret := (some .int)) (by decide) rfl (Nat.le_of_ble_eq_true rfl) ?_
  intro p e s m args below meth c ls A E hex hZ hT hA hK hP hD hS hl
  obtain ⟨hx, hb, hr, hml, hts, hown, hlocks, hnm⟩ := id E
  have hg : ∀ w ∈ gW, w.before args s = true := fun w h => hts w (List.mem_cons_of_mem _ h)
  have hown : s.vm.findClass "NurseryRow" = some m.cls := hown
  have hl : lv_has ls 2 [(0, .ref (a 0)), (1, .int w)] := hl
  rcases hrw with ⟨hrw, rfl⟩ | ⟨hrw, rfl⟩
  · refine lv_iload_n hx hb dNr_count_0 rfl (lv_at hl 1 rfl) ?_
    rcases tsw w 9 (by decide) with ht | ⟨jw, hjw, hxw⟩
    · refine lv_tableOut (tgt := 146) hx hb dNr_count_1 ht (by decide) ?_
      exact gv_throw (X := xIA) (tx := "nothing of that kind is counted") (is := 156) (ix := 7) (rx := rxIA) E rfl hfl hex hZ hT hK hP hD hS hl.1 rIA0 rIA1 rIA2 rIA5 (by decide) kl_Nr_38 z_IllegalArgumentException (by decide) gx_IA gy_IA go_IA ⟨rfl, ht⟩ (by decide) (by decide) (by decide) (by decide) (by decide) (by decide) dNr_count_146 dNr_count_149 dNr_count_150 dNr_count_152 dNr_count_155
    · rcases (show jw = 0 ∨ jw = 1 ∨ jw = 2 ∨ jw = 3 ∨ jw = 4 ∨ jw = 5 ∨ jw = 6 ∨ jw = 7 ∨ jw = 8 ∨ jw = 9 by omega) with rfl | rfl | rfl | rfl | rfl | rfl | rfl | rfl | rfl | rfl
      · refine gx_top (z := 0) hxw ?_
        refine lv_tableIn (tgt := 56) hx hb dNr_count_1 (by decide) (by decide) rfl (by decide) ?_
        refine lv_aload_n hx hb dNr_count_56 rfl (lv_at hl 0 rfl) ?_
        refine va_get (C := RNr) (T := TNr) (N := 10) (ci := 1) (v := .ref (a 1)) hx hb hg inNr hown hK hP 0 rfl rfl 0 (by decide) (hg _ f_Nr_11) (fun _ h9 => h9) rfl dNr_count_57 ?_
        refine lv_iconst (v := 0) hx hb dNr_count_60 (by decide) ?_
        refine va_aldq hx hb hK hP 1 1 rfl rfl (by unfold vp_in; decide) dNr_count_61 ?_
        refine gx_stk (st' := [.ref (a (2 + 0))]) rfl ?_
        refine va_get (C := RPt) (T := TPt) (N := 4) (ci := 0) (v := .int (σ.P 0 3)) hx hb hg inPt hown hK hP 2 rfl rfl 3 (by decide) (hg _ f_Nr_120) (fun _ h9 => h9) rfl dNr_count_62 ?_
        exact vx_ret (W.widen (k := 1) (n := 6) (by decide) (by decide) (gx_iret (u := σ) E hK hP hD hS ⟨0, by decide, hxw, rfl, rfl⟩ dNr_count_65))
      · refine gx_top (z := 1) hxw ?_
        refine lv_tableIn (tgt := 66) hx hb dNr_count_1 (by decide) (by decide) rfl (by decide) ?_
        refine lv_aload_n hx hb dNr_count_66 rfl (lv_at hl 0 rfl) ?_
        refine va_get (C := RNr) (T := TNr) (N := 10) (ci := 1) (v := .ref (a 1)) hx hb hg inNr hown hK hP 0 rfl rfl 0 (by decide) (hg _ f_Nr_11) (fun _ h9 => h9) rfl dNr_count_67 ?_
        refine lv_iconst (v := 1) hx hb dNr_count_70 (by decide) ?_
        refine lv_aload_n hx hb dNr_count_71 rfl (lv_at hl 0 rfl) ?_
        refine va_get (C := RNr) (T := TNr) (N := 10) (ci := 1) (v := .int (σ.F 2)) hx hb hg inNr hown hK hP 0 rfl rfl 6 (by decide) (hg _ f_Nr_58) (fun _ h9 => h9) rfl dNr_count_72 ?_
        refine gx_top (z := 0) hrw ?_
        refine lv_iadd hx hb dNr_count_75 ?_
        refine gx_top (z := 1) (by decide) ?_
        refine va_aldq hx hb hK hP 1 1 rfl rfl (by unfold vp_in; decide) dNr_count_76 ?_
        refine gx_stk (st' := [.ref (a (2 + 1))]) rfl ?_
        refine va_get (C := RPt) (T := TPt) (N := 4) (ci := 0) (v := .int (σ.P 1 3)) hx hb hg inPt hown hK hP 3 rfl rfl 3 (by decide) (hg _ f_Nr_120) (fun _ h9 => h9) rfl dNr_count_77 ?_
        exact vx_ret (W.widen (k := 1) (n := 6) (by decide) (by decide) (gx_iret (u := σ) E hK hP hD hS ⟨1, by decide, hxw, rfl, rfl⟩ dNr_count_80))
      · refine gx_top (z := 2) hxw ?_
        refine lv_tableIn (tgt := 81) hx hb dNr_count_1 (by decide) (by decide) rfl (by decide) ?_
        refine lv_aload_n hx hb dNr_count_81 rfl (lv_at hl 0 rfl) ?_
        refine va_get (C := RNr) (T := TNr) (N := 10) (ci := 1) (v := .ref (a 1)) hx hb hg inNr hown hK hP 0 rfl rfl 0 (by decide) (hg _ f_Nr_11) (fun _ h9 => h9) rfl dNr_count_82 ?_
        refine lv_iconst (v := 3) hx hb dNr_count_85 (by decide) ?_
        refine va_aldq hx hb hK hP 1 1 rfl rfl (by unfold vp_in; decide) dNr_count_86 ?_
        refine gx_stk (st' := [.ref (a (2 + 3))]) rfl ?_
        refine va_get (C := RPt) (T := TPt) (N := 4) (ci := 0) (v := .int (σ.P 3 3)) hx hb hg inPt hown hK hP 5 rfl rfl 3 (by decide) (hg _ f_Nr_120) (fun _ h9 => h9) rfl dNr_count_87 ?_
        exact vx_ret (W.widen (k := 1) (n := 6) (by decide) (by decide) (gx_iret (u := σ) E hK hP hD hS ⟨2, by decide, hxw, rfl, rfl⟩ dNr_count_90))
      · refine gx_top (z := 3) hxw ?_
        refine lv_tableIn (tgt := 91) hx hb dNr_count_1 (by decide) (by decide) rfl (by decide) ?_
        refine lv_aload_n hx hb dNr_count_91 rfl (lv_at hl 0 rfl) ?_
        refine va_get (C := RNr) (T := TNr) (N := 10) (ci := 1) (v := .ref (a 1)) hx hb hg inNr hown hK hP 0 rfl rfl 0 (by decide) (hg _ f_Nr_11) (fun _ h9 => h9) rfl dNr_count_92 ?_
        refine lv_iconst (v := 0) hx hb dNr_count_95 (by decide) ?_
        refine va_aldq hx hb hK hP 1 1 rfl rfl (by unfold vp_in; decide) dNr_count_96 ?_
        refine gx_stk (st' := [.ref (a (2 + 0))]) rfl ?_
        refine va_get (C := RPt) (T := TPt) (N := 4) (ci := 0) (v := .int (σ.P 0 2)) hx hb hg inPt hown hK hP 2 rfl rfl 2 (by decide) (hg _ f_Nr_112) (fun _ h9 => h9) rfl dNr_count_97 ?_
        exact vx_ret (W.widen (k := 1) (n := 6) (by decide) (by decide) (gx_iret (u := σ) E hK hP hD hS ⟨3, by decide, hxw, rfl, rfl⟩ dNr_count_100))
      · refine gx_top (z := 4) hxw ?_
        refine lv_tableIn (tgt := 101) hx hb dNr_count_1 (by decide) (by decide) rfl (by decide) ?_
        refine lv_aload_n hx hb dNr_count_101 rfl (lv_at hl 0 rfl) ?_
        refine va_get (C := RNr) (T := TNr) (N := 10) (ci := 1) (v := .ref (a 1)) hx hb hg inNr hown hK hP 0 rfl rfl 0 (by decide) (hg _ f_Nr_11) (fun _ h9 => h9) rfl dNr_count_102 ?_
        refine lv_iconst (v := 1) hx hb dNr_count_105 (by decide) ?_
        refine lv_aload_n hx hb dNr_count_106 rfl (lv_at hl 0 rfl) ?_
        refine va_get (C := RNr) (T := TNr) (N := 10) (ci := 1) (v := .int (σ.F 2)) hx hb hg inNr hown hK hP 0 rfl rfl 6 (by decide) (hg _ f_Nr_58) (fun _ h9 => h9) rfl dNr_count_107 ?_
        refine gx_top (z := 0) hrw ?_
        refine lv_iadd hx hb dNr_count_110 ?_
        refine gx_top (z := 1) (by decide) ?_
        refine va_aldq hx hb hK hP 1 1 rfl rfl (by unfold vp_in; decide) dNr_count_111 ?_
        refine gx_stk (st' := [.ref (a (2 + 1))]) rfl ?_
        refine va_get (C := RPt) (T := TPt) (N := 4) (ci := 0) (v := .int (σ.P 1 2)) hx hb hg inPt hown hK hP 3 rfl rfl 2 (by decide) (hg _ f_Nr_112) (fun _ h9 => h9) rfl dNr_count_112 ?_
        exact vx_ret (W.widen (k := 1) (n := 6) (by decide) (by decide) (gx_iret (u := σ) E hK hP hD hS ⟨4, by decide, hxw, rfl, rfl⟩ dNr_count_115))
      · refine gx_top (z := 5) hxw ?_
        refine lv_tableIn (tgt := 116) hx hb dNr_count_1 (by decide) (by decide) rfl (by decide) ?_
        refine lv_aload_n hx hb dNr_count_116 rfl (lv_at hl 0 rfl) ?_
        refine va_get (C := RNr) (T := TNr) (N := 10) (ci := 1) (v := .ref (a 1)) hx hb hg inNr hown hK hP 0 rfl rfl 0 (by decide) (hg _ f_Nr_11) (fun _ h9 => h9) rfl dNr_count_117 ?_
        refine lv_iconst (v := 3) hx hb dNr_count_120 (by decide) ?_
        refine va_aldq hx hb hK hP 1 1 rfl rfl (by unfold vp_in; decide) dNr_count_121 ?_
        refine gx_stk (st' := [.ref (a (2 + 3))]) rfl ?_
        refine va_get (C := RPt) (T := TPt) (N := 4) (ci := 0) (v := .int (σ.P 3 2)) hx hb hg inPt hown hK hP 5 rfl rfl 2 (by decide) (hg _ f_Nr_112) (fun _ h9 => h9) rfl dNr_count_122 ?_
        exact vx_ret (W.widen (k := 1) (n := 6) (by decide) (by decide) (gx_iret (u := σ) E hK hP hD hS ⟨5, by decide, hxw, rfl, rfl⟩ dNr_count_125))
      · refine gx_top (z := 6) hxw ?_
        refine lv_tableIn (tgt := 126) hx hb dNr_count_1 (by decide) (by decide) rfl (by decide) ?_
        refine lv_aload_n hx hb dNr_count_126 rfl (lv_at hl 0 rfl) ?_
        refine va_get (C := RNr) (T := TNr) (N := 10) (ci := 1) (v := .int (σ.F 3)) hx hb hg inNr hown hK hP 0 rfl rfl 7 (by decide) (hg _ f_Nr_61) (fun _ h9 => h9) rfl dNr_count_127 ?_
        exact vx_ret (W.widen (k := 1) (n := 6) (by decide) (by decide) (gx_iret (u := σ) E hK hP hD hS ⟨6, by decide, hxw, rfl, rfl⟩ dNr_count_130))
      · refine gx_top (z := 7) hxw ?_
        refine lv_tableIn (tgt := 131) hx hb dNr_count_1 (by decide) (by decide) rfl (by decide) ?_
        refine lv_aload_n hx hb dNr_count_131 rfl (lv_at hl 0 rfl) ?_
        refine va_get (C := RNr) (T := TNr) (N := 10) (ci := 1) (v := .int (σ.F 4)) hx hb hg inNr hown hK hP 0 rfl rfl 8 (by decide) (hg _ f_Nr_64) (fun _ h9 => h9) rfl dNr_count_132 ?_
        exact vx_ret (W.widen (k := 1) (n := 6) (by decide) (by decide) (gx_iret (u := σ) E hK hP hD hS ⟨7, by decide, hxw, rfl, rfl⟩ dNr_count_135))
      · refine gx_top (z := 8) hxw ?_
        refine lv_tableIn (tgt := 136) hx hb dNr_count_1 (by decide) (by decide) rfl (by decide) ?_
        refine lv_aload_n hx hb dNr_count_136 rfl (lv_at hl 0 rfl) ?_
        refine va_get (C := RNr) (T := TNr) (N := 10) (ci := 1) (v := .int (σ.F 5)) hx hb hg inNr hown hK hP 0 rfl rfl 9 (by decide) (hg _ f_Nr_67) (fun _ h9 => h9) rfl dNr_count_137 ?_
        exact vx_ret (W.widen (k := 1) (n := 6) (by decide) (by decide) (gx_iret (u := σ) E hK hP hD hS ⟨8, by decide, hxw, rfl, rfl⟩ dNr_count_140))
      · refine gx_top (z := 9) hxw ?_
        refine lv_tableIn (tgt := 141) hx hb dNr_count_1 (by decide) (by decide) rfl (by decide) ?_
        refine lv_aload_n hx hb dNr_count_141 rfl (lv_at hl 0 rfl) ?_
        refine va_get (C := RNr) (T := TNr) (N := 10) (ci := 1) (v := .int (σ.F 2)) hx hb hg inNr hown hK hP 0 rfl rfl 6 (by decide) (hg _ f_Nr_58) (fun _ h9 => h9) rfl dNr_count_142 ?_
        exact vx_ret (W.widen (k := 1) (n := 6) (by decide) (by decide) (gx_iret (u := σ) E hK hP hD hS ⟨9, by decide, hxw, rfl, rfl⟩ dNr_count_145))
  · refine lv_iload_n hx hb dNr_count_0 rfl (lv_at hl 1 rfl) ?_
    rcases tsw w 9 (by decide) with ht | ⟨jw, hjw, hxw⟩
    · refine lv_tableOut (tgt := 146) hx hb dNr_count_1 ht (by decide) ?_
      exact gv_throw (X := xIA) (tx := "nothing of that kind is counted") (is := 156) (ix := 7) (rx := rxIA) E rfl hfl hex hZ hT hK hP hD hS hl.1 rIA0 rIA1 rIA2 rIA5 (by decide) kl_Nr_38 z_IllegalArgumentException (by decide) gx_IA gy_IA go_IA ⟨rfl, ht⟩ (by decide) (by decide) (by decide) (by decide) (by decide) (by decide) dNr_count_146 dNr_count_149 dNr_count_150 dNr_count_152 dNr_count_155
    · rcases (show jw = 0 ∨ jw = 1 ∨ jw = 2 ∨ jw = 3 ∨ jw = 4 ∨ jw = 5 ∨ jw = 6 ∨ jw = 7 ∨ jw = 8 ∨ jw = 9 by omega) with rfl | rfl | rfl | rfl | rfl | rfl | rfl | rfl | rfl | rfl
      · refine gx_top (z := 0) hxw ?_
        refine lv_tableIn (tgt := 56) hx hb dNr_count_1 (by decide) (by decide) rfl (by decide) ?_
        refine lv_aload_n hx hb dNr_count_56 rfl (lv_at hl 0 rfl) ?_
        refine va_get (C := RNr) (T := TNr) (N := 10) (ci := 1) (v := .ref (a 1)) hx hb hg inNr hown hK hP 0 rfl rfl 0 (by decide) (hg _ f_Nr_11) (fun _ h9 => h9) rfl dNr_count_57 ?_
        refine lv_iconst (v := 0) hx hb dNr_count_60 (by decide) ?_
        refine va_aldq hx hb hK hP 1 1 rfl rfl (by unfold vp_in; decide) dNr_count_61 ?_
        refine gx_stk (st' := [.ref (a (2 + 0))]) rfl ?_
        refine va_get (C := RPt) (T := TPt) (N := 4) (ci := 0) (v := .int (σ.P 0 3)) hx hb hg inPt hown hK hP 2 rfl rfl 3 (by decide) (hg _ f_Nr_120) (fun _ h9 => h9) rfl dNr_count_62 ?_
        exact vx_ret (W.widen (k := 1) (n := 6) (by decide) (by decide) (gx_iret (u := σ) E hK hP hD hS ⟨0, by decide, hxw, rfl, rfl⟩ dNr_count_65))
      · refine gx_top (z := 1) hxw ?_
        refine lv_tableIn (tgt := 66) hx hb dNr_count_1 (by decide) (by decide) rfl (by decide) ?_
        refine lv_aload_n hx hb dNr_count_66 rfl (lv_at hl 0 rfl) ?_
        refine va_get (C := RNr) (T := TNr) (N := 10) (ci := 1) (v := .ref (a 1)) hx hb hg inNr hown hK hP 0 rfl rfl 0 (by decide) (hg _ f_Nr_11) (fun _ h9 => h9) rfl dNr_count_67 ?_
        refine lv_iconst (v := 1) hx hb dNr_count_70 (by decide) ?_
        refine lv_aload_n hx hb dNr_count_71 rfl (lv_at hl 0 rfl) ?_
        refine va_get (C := RNr) (T := TNr) (N := 10) (ci := 1) (v := .int (σ.F 2)) hx hb hg inNr hown hK hP 0 rfl rfl 6 (by decide) (hg _ f_Nr_58) (fun _ h9 => h9) rfl dNr_count_72 ?_
        refine gx_top (z := 1) hrw ?_
        refine lv_iadd hx hb dNr_count_75 ?_
        refine gx_top (z := 2) (by decide) ?_
        refine va_aldq hx hb hK hP 1 1 rfl rfl (by unfold vp_in; decide) dNr_count_76 ?_
        refine gx_stk (st' := [.ref (a (2 + 2))]) rfl ?_
        refine va_get (C := RPt) (T := TPt) (N := 4) (ci := 0) (v := .int (σ.P 2 3)) hx hb hg inPt hown hK hP 4 rfl rfl 3 (by decide) (hg _ f_Nr_120) (fun _ h9 => h9) rfl dNr_count_77 ?_
        exact vx_ret (W.widen (k := 1) (n := 6) (by decide) (by decide) (gx_iret (u := σ) E hK hP hD hS ⟨1, by decide, hxw, rfl, rfl⟩ dNr_count_80))
      · refine gx_top (z := 2) hxw ?_
        refine lv_tableIn (tgt := 81) hx hb dNr_count_1 (by decide) (by decide) rfl (by decide) ?_
        refine lv_aload_n hx hb dNr_count_81 rfl (lv_at hl 0 rfl) ?_
        refine va_get (C := RNr) (T := TNr) (N := 10) (ci := 1) (v := .ref (a 1)) hx hb hg inNr hown hK hP 0 rfl rfl 0 (by decide) (hg _ f_Nr_11) (fun _ h9 => h9) rfl dNr_count_82 ?_
        refine lv_iconst (v := 3) hx hb dNr_count_85 (by decide) ?_
        refine va_aldq hx hb hK hP 1 1 rfl rfl (by unfold vp_in; decide) dNr_count_86 ?_
        refine gx_stk (st' := [.ref (a (2 + 3))]) rfl ?_
        refine va_get (C := RPt) (T := TPt) (N := 4) (ci := 0) (v := .int (σ.P 3 3)) hx hb hg inPt hown hK hP 5 rfl rfl 3 (by decide) (hg _ f_Nr_120) (fun _ h9 => h9) rfl dNr_count_87 ?_
        exact vx_ret (W.widen (k := 1) (n := 6) (by decide) (by decide) (gx_iret (u := σ) E hK hP hD hS ⟨2, by decide, hxw, rfl, rfl⟩ dNr_count_90))
      · refine gx_top (z := 3) hxw ?_
        refine lv_tableIn (tgt := 91) hx hb dNr_count_1 (by decide) (by decide) rfl (by decide) ?_
        refine lv_aload_n hx hb dNr_count_91 rfl (lv_at hl 0 rfl) ?_
        refine va_get (C := RNr) (T := TNr) (N := 10) (ci := 1) (v := .ref (a 1)) hx hb hg inNr hown hK hP 0 rfl rfl 0 (by decide) (hg _ f_Nr_11) (fun _ h9 => h9) rfl dNr_count_92 ?_
        refine lv_iconst (v := 0) hx hb dNr_count_95 (by decide) ?_
        refine va_aldq hx hb hK hP 1 1 rfl rfl (by unfold vp_in; decide) dNr_count_96 ?_
        refine gx_stk (st' := [.ref (a (2 + 0))]) rfl ?_
        refine va_get (C := RPt) (T := TPt) (N := 4) (ci := 0) (v := .int (σ.P 0 2)) hx hb hg inPt hown hK hP 2 rfl rfl 2 (by decide) (hg _ f_Nr_112) (fun _ h9 => h9) rfl dNr_count_97 ?_
        exact vx_ret (W.widen (k := 1) (n := 6) (by decide) (by decide) (gx_iret (u := σ) E hK hP hD hS ⟨3, by decide, hxw, rfl, rfl⟩ dNr_count_100))
      · refine gx_top (z := 4) hxw ?_
        refine lv_tableIn (tgt := 101) hx hb dNr_count_1 (by decide) (by decide) rfl (by decide) ?_
        refine lv_aload_n hx hb dNr_count_101 rfl (lv_at hl 0 rfl) ?_
        refine va_get (C := RNr) (T := TNr) (N := 10) (ci := 1) (v := .ref (a 1)) hx hb hg inNr hown hK hP 0 rfl rfl 0 (by decide) (hg _ f_Nr_11) (fun _ h9 => h9) rfl dNr_count_102 ?_
        refine lv_iconst (v := 1) hx hb dNr_count_105 (by decide) ?_
        refine lv_aload_n hx hb dNr_count_106 rfl (lv_at hl 0 rfl) ?_
        refine va_get (C := RNr) (T := TNr) (N := 10) (ci := 1) (v := .int (σ.F 2)) hx hb hg inNr hown hK hP 0 rfl rfl 6 (by decide) (hg _ f_Nr_58) (fun _ h9 => h9) rfl dNr_count_107 ?_
        refine gx_top (z := 1) hrw ?_
        refine lv_iadd hx hb dNr_count_110 ?_
        refine gx_top (z := 2) (by decide) ?_
        refine va_aldq hx hb hK hP 1 1 rfl rfl (by unfold vp_in; decide) dNr_count_111 ?_
        refine gx_stk (st' := [.ref (a (2 + 2))]) rfl ?_
        refine va_get (C := RPt) (T := TPt) (N := 4) (ci := 0) (v := .int (σ.P 2 2)) hx hb hg inPt hown hK hP 4 rfl rfl 2 (by decide) (hg _ f_Nr_112) (fun _ h9 => h9) rfl dNr_count_112 ?_
        exact vx_ret (W.widen (k := 1) (n := 6) (by decide) (by decide) (gx_iret (u := σ) E hK hP hD hS ⟨4, by decide, hxw, rfl, rfl⟩ dNr_count_115))
      · refine gx_top (z := 5) hxw ?_
        refine lv_tableIn (tgt := 116) hx hb dNr_count_1 (by decide) (by decide) rfl (by decide) ?_
        refine lv_aload_n hx hb dNr_count_116 rfl (lv_at hl 0 rfl) ?_
        refine va_get (C := RNr) (T := TNr) (N := 10) (ci := 1) (v := .ref (a 1)) hx hb hg inNr hown hK hP 0 rfl rfl 0 (by decide) (hg _ f_Nr_11) (fun _ h9 => h9) rfl dNr_count_117 ?_
        refine lv_iconst (v := 3) hx hb dNr_count_120 (by decide) ?_
        refine va_aldq hx hb hK hP 1 1 rfl rfl (by unfold vp_in; decide) dNr_count_121 ?_
        refine gx_stk (st' := [.ref (a (2 + 3))]) rfl ?_
        refine va_get (C := RPt) (T := TPt) (N := 4) (ci := 0) (v := .int (σ.P 3 2)) hx hb hg inPt hown hK hP 5 rfl rfl 2 (by decide) (hg _ f_Nr_112) (fun _ h9 => h9) rfl dNr_count_122 ?_
        exact vx_ret (W.widen (k := 1) (n := 6) (by decide) (by decide) (gx_iret (u := σ) E hK hP hD hS ⟨5, by decide, hxw, rfl, rfl⟩ dNr_count_125))
      · refine gx_top (z := 6) hxw ?_
        refine lv_tableIn (tgt := 126) hx hb dNr_count_1 (by decide) (by decide) rfl (by decide) ?_
        refine lv_aload_n hx hb dNr_count_126 rfl (lv_at hl 0 rfl) ?_
        refine va_get (C := RNr) (T := TNr) (N := 10) (ci := 1) (v := .int (σ.F 3)) hx hb hg inNr hown hK hP 0 rfl rfl 7 (by decide) (hg _ f_Nr_61) (fun _ h9 => h9) rfl dNr_count_127 ?_
        exact vx_ret (W.widen (k := 1) (n := 6) (by decide) (by decide) (gx_iret (u := σ) E hK hP hD hS ⟨6, by decide, hxw, rfl, rfl⟩ dNr_count_130))
      · refine gx_top (z := 7) hxw ?_
        refine lv_tableIn (tgt := 131) hx hb dNr_count_1 (by decide) (by decide) rfl (by decide) ?_
        refine lv_aload_n hx hb dNr_count_131 rfl (lv_at hl 0 rfl) ?_
        refine va_get (C := RNr) (T := TNr) (N := 10) (ci := 1) (v := .int (σ.F 4)) hx hb hg inNr hown hK hP 0 rfl rfl 8 (by decide) (hg _ f_Nr_64) (fun _ h9 => h9) rfl dNr_count_132 ?_
        exact vx_ret (W.widen (k := 1) (n := 6) (by decide) (by decide) (gx_iret (u := σ) E hK hP hD hS ⟨7, by decide, hxw, rfl, rfl⟩ dNr_count_135))
      · refine gx_top (z := 8) hxw ?_
        refine lv_tableIn (tgt := 136) hx hb dNr_count_1 (by decide) (by decide) rfl (by decide) ?_
        refine lv_aload_n hx hb dNr_count_136 rfl (lv_at hl 0 rfl) ?_
        refine va_get (C := RNr) (T := TNr) (N := 10) (ci := 1) (v := .int (σ.F 5)) hx hb hg inNr hown hK hP 0 rfl rfl 9 (by decide) (hg _ f_Nr_67) (fun _ h9 => h9) rfl dNr_count_137 ?_
        exact vx_ret (W.widen (k := 1) (n := 6) (by decide) (by decide) (gx_iret (u := σ) E hK hP hD hS ⟨8, by decide, hxw, rfl, rfl⟩ dNr_count_140))
      · refine gx_top (z := 9) hxw ?_
        refine lv_tableIn (tgt := 141) hx hb dNr_count_1 (by decide) (by decide) rfl (by decide) ?_
        refine lv_aload_n hx hb dNr_count_141 rfl (lv_at hl 0 rfl) ?_
        refine va_get (C := RNr) (T := TNr) (N := 10) (ci := 1) (v := .int (σ.F 2)) hx hb hg inNr hown hK hP 0 rfl rfl 6 (by decide) (hg _ f_Nr_58) (fun _ h9 => h9) rfl dNr_count_142 ?_
        exact vx_ret (W.widen (k := 1) (n := 6) (by decide) (by decide) (gx_iret (u := σ) E hK hP hD hS ⟨9, by decide, hxw, rfl, rfl⟩ dNr_count_145))
set_option maxHeartbeats 4000000 in
set_option maxRecDepth 100000 in
/-- the object behind -/
theorem qNr_next (l : Launch) (hfl : l.stackTraces = false) (D : va_G) (cI cP : ClassId) (a : Nat → Nat) (σ : nSt) (pp : Nat → Nat → Nat) (x : Int32) (h : nInv σ pp) : gv_M l yNr_next (Cond.code yNr_next cNr_next 4 (some .int) :: gW) (gRc 8 1 6) D gC (nrT cI cP) (nrW cI cP a) σ [.ref (a 0), .int x] (fun r u => (x = 0 ∧ r = fF σ 0 ∧ u = σ) ∨ (¬ x = 0 ∧ ∃ i t, i < 4 ∧ t < pp i 3 ∧ x = nI (ch σ.X (pp i 0) t) ∧ u = σ ∧ ((¬ ptCov (σ.P i 0) (σ.P i 2) (nI (ch σ.X (pp i 0) (t + 1))) = 0 ∧ r = nI (ch σ.X (pp i 0) (t + 1))) ∨ (ptCov (σ.P i 0) (σ.P i 2) (nI (ch σ.X (pp i 0) (t + 1))) = 0 ∧ r = fF σ (i + 1))))) (fun E => E = xNS ∧ ¬ x = 0 ∧ isOb σ.X pp x = 0) := by
  refine gv_M.of (cc := cNr_next) (maxL := 4) (ret := (some .int)) (by decide) rfl (Nat.le_of_ble_eq_true rfl) ?_
  intro p e s m args below meth c ls A E hex hZ hT hA hK hP hD hS hl
  obtain ⟨hx, hb, hr, hml, hts, hown, hlocks, hnm⟩ := id E
  have hg : ∀ w ∈ gW, w.before args s = true := fun w h => hts w (List.mem_cons_of_mem _ h)
  have hown : s.vm.findClass "NurseryRow" = some m.cls := hown
  have hl : lv_has ls 4 [(0, .ref (a 0)), (1, .int x)] := hl
  refine lv_iload_n hx hb dNr_next_0 rfl (lv_at hl 1 rfl) ?_
  refine lv_if_ne (tgt := 10) hx hb dNr_next_1 (by decide) (fun c_1 => ?_) (fun c_1 => ?_)
  · refine lv_aload_n hx hb dNr_next_10 rfl (lv_at hl 0 rfl) ?_
    refine lv_iload_n hx hb dNr_next_11 rfl (lv_at hl 1 rfl) ?_
    refine gx_callp (C := "NurseryRow") (As := [.int x]) (rest := []) E (qNr_isObject l D cI cP a σ pp x h) (gx_cwV hts l_Nr_139 k_Nr_isObject ki_Nr_isObject ke_Nr_isObject z_Nr n_Nr_isObject ⟨by decide, by decide⟩) hK hP hD (va_recv hK hP (ci := 1) (q0 := 0) rfl rfl) hl.1 rfl rfl (Nat.le_of_ble_eq_true rfl) ⟨Nat.zero_le _, Nat.zero_le _⟩ dNr_next_12 ?_
    refine lv_if_ne (tgt := 28) hx hb dNr_next_15 (by decide) (fun c_15 => ?_) (fun c_15 => ?_)
    · obtain ⟨i, hi, t, htt, hxk⟩ := isOb_ne c_15
      have hLi := h.2.1 i hi
      have hin := hLi.in htt
      have hen := h.end hi
      obtain ⟨nf, nw, hf, hw, e0, e1, e2⟩ := hLi.sz htt
      have hN : σ.N < 2 ^ 31 := by omega
      have hpo := pOf_at h hi htt
      refine lv_aload_n hx hb dNr_next_28 rfl (lv_at hl 0 rfl) ?_
      refine lv_iload_n hx hb dNr_next_29 rfl (lv_at hl 1 rfl) ?_
      refine gx_callp (C := "NurseryRow") (As := [.int x]) (rest := []) E (qNr_partOf l D cI cP a σ x) (gx_cwV hts l_Nr_142 k_Nr_partOf ki_Nr_partOf ke_Nr_partOf z_Nr n_Nr_partOf ⟨by decide, by decide⟩) hK hP hD (va_recv hK hP (ci := 1) (q0 := 0) rfl rfl) hl.1 rfl rfl (Nat.le_of_ble_eq_true rfl) ⟨Nat.zero_le _, Nat.zero_le _⟩ dNr_next_30 ?_
      refine gx_top (z := nI i) (by rw [hxk]; exact hpo) ?_
      refine lv_istore_n (lv' := [(2, .int (nI i)), (0, .ref (a 0)), (1, .int x)]) hx hb dNr_next_33 rfl hl (by decide) rfl (fun ls hl => ?_)
      refine lv_iload_n hx hb dNr_next_34 rfl (lv_at hl 2 rfl) ?_
      refine lv_aload_n hx hb dNr_next_35 rfl (lv_at hl 1 rfl) ?_
      refine lv_iload_n hx hb dNr_next_36 rfl (lv_at hl 2 rfl) ?_
      refine gx_stk (st' := [.int (nI (ch σ.X (pp i 0) t)), .ref (a 0), .int x]) (by rw [hxk]) ?_
      refine gx_callp (C := "NurseryRow") (As := [.int (nI (ch σ.X (pp i 0) t))]) (rest := [.int x]) E (qNr_sizeAt l D cI cP a σ (ch σ.X (pp i 0) t) (by omega) hN) (gx_cwV hts l_Nr_150 k_Nr_sizeAt ki_Nr_sizeAt ke_Nr_sizeAt z_Nr n_Nr_sizeAt ⟨by decide, by decide⟩) hK hP hD (va_recv hK hP (ci := 1) (q0 := 0) rfl rfl) hl.1 rfl rfl (Nat.le_of_ble_eq_true rfl) ⟨Nat.zero_le _, Nat.zero_le _⟩ dNr_next_37 ?_
      refine lv_iadd hx hb dNr_next_40 ?_
      refine gx_top (z := nI (ch σ.X (pp i 0) (t + 1))) (by rw [hxk, e0, e1, show (3 : Int32) = nI 3 from rfl, nI_add, nI_add, nI_add]; simp only [ch, e2]) ?_
      refine lv_istore_n (lv' := [(3, .int (nI (ch σ.X (pp i 0) (t + 1)))), (2, .int (nI i)), (0, .ref (a 0)), (1, .int x)]) hx hb dNr_next_41 rfl hl (by decide) rfl (fun ls hl => ?_)
      refine lv_aload_n hx hb dNr_next_42 rfl (lv_at hl 2 rfl) ?_
      refine va_get (C := RNr) (T := TNr) (N := 10) (ci := 1) (v := .ref (a 1)) hx hb hg inNr hown hK hP 0 rfl rfl 0 (by decide) (hg _ f_Nr_11) (fun _ h9 => h9) rfl dNr_next_43 ?_
      refine lv_iload_n hx hb dNr_next_46 rfl (lv_at hl 1 rfl) ?_
      refine va_aldq hx hb hK hP 1 1 rfl rfl (vp_in_nI hi (by omega)) dNr_next_47 ?_
      refine gx_stk (st' := [.ref (a (2 + i))]) (by rw [nI_clamp (by omega)]; rfl) ?_
      refine lv_iload_n hx hb dNr_next_48 rfl (lv_at hl 0 rfl) ?_
      refine gx_callp (C := "NurseryRow$Part") (As := [.int (nI (ch σ.X (pp i 0) (t + 1)))]) (rest := []) E (nr_liftp (i := i) hi (qPt_covers l D _ (a (2 + i)) (σ.p i) (nI (ch σ.X (pp i 0) (t + 1))))) (gx_cwV hts l_Nr_153 k_Pt_covers ki_Pt_covers ke_Pt_covers z_Pt n_Pt_covers ⟨by decide, by decide⟩) hK hP hD (va_recv hK hP (ci := 0) (q0 := (2 + i)) rfl (nr_pl cI cP a σ hi)) hl.1 rfl rfl (Nat.le_of_ble_eq_true rfl) ⟨Nat.zero_le _, Nat.zero_le _⟩ dNr_next_49 ?_
      refine gx_top (z := ptCov (σ.P i 0) (σ.P i 2) (nI (ch σ.X (pp i 0) (t + 1)))) rfl ?_
      refine lv_if_eq (tgt := 59) hx hb dNr_next_52 (by decide) (fun c_52 => ?_) (fun c_52 => ?_)
      · refine lv_aload_n hx hb dNr_next_59 rfl (lv_at hl 2 rfl) ?_
        refine lv_iload_n hx hb dNr_next_60 rfl (lv_at hl 1 rfl) ?_
        refine lv_iconst (v := 1) hx hb dNr_next_61 (by decide) ?_
        refine lv_iadd hx hb dNr_next_62 ?_
        refine gx_stk (st' := [.int (nI (i + 1)), .ref (a 0)]) (by rw [nI_1]) ?_
        refine gx_callp (C := "NurseryRow") (As := [.int (nI (i + 1))]) (rest := []) E (qNr_firstFrom l D cI cP a σ (i + 1) (by omega)) (gx_cwV hts l_Nr_147 k_Nr_firstFrom ki_Nr_firstFrom ke_Nr_firstFrom z_Nr n_Nr_firstFrom ⟨by decide, by decide⟩) hK hP hD (va_recv hK hP (ci := 1) (q0 := 0) rfl rfl) hl.1 rfl rfl (Nat.le_of_ble_eq_true rfl) ⟨Nat.zero_le _, Nat.zero_le _⟩ dNr_next_63 ?_
        exact vx_ret (W.widen (k := 1) (n := 6) (by decide) (by decide) (gx_iret (u := σ) E hK hP hD hS (Or.inr ⟨c_1, i, t, hi, htt, hxk, rfl, Or.inr ⟨c_52, rfl⟩⟩) dNr_next_66))
      · refine lv_iload_n hx hb dNr_next_55 rfl (lv_at hl 0 rfl) ?_
        refine lv_goto (tgt := 66) hx hb dNr_next_56 (by decide) ?_
        exact vx_ret (W.widen (k := 1) (n := 6) (by decide) (by decide) (gx_iret (u := σ) E hK hP hD hS (Or.inr ⟨c_1, i, t, hi, htt, hxk, rfl, Or.inl ⟨c_52, rfl⟩⟩) dNr_next_66))
    · exact gv_throw (X := xNS) (tx := "no such object") (is := 72) (ix := 13) (rx := rxNS) E rfl hfl hex hZ hT hK hP hD hS hl.1 rNS0 rNS1 rNS2 rNS5 (by decide) kl_Nr_92 z_NoSuchElementException (by decide) gx_NS gy_NS go_NS ⟨rfl, c_1, c_15⟩ (by decide) (by decide) (by decide) (by decide) (by decide) (by decide) dNr_next_18 dNr_next_21 dNr_next_22 dNr_next_24 dNr_next_27
  · refine lv_aload_n hx hb dNr_next_4 rfl (lv_at hl 0 rfl) ?_
    refine lv_iconst (v := 0) hx hb dNr_next_5 (by decide) ?_
    refine gx_callp (C := "NurseryRow") (As := [.int 0]) (rest := []) E (qNr_firstFrom l D cI cP a σ 0 (by decide)) (gx_cwV hts l_Nr_147 k_Nr_firstFrom ki_Nr_firstFrom ke_Nr_firstFrom z_Nr n_Nr_firstFrom ⟨by decide, by decide⟩) hK hP hD (va_recv hK hP (ci := 1) (q0 := 0) rfl rfl) hl.1 rfl rfl (Nat.le_of_ble_eq_true rfl) ⟨Nat.zero_le _, Nat.zero_le _⟩ dNr_next_6 ?_
    exact vx_ret (W.widen (k := 1) (n := 6) (by decide) (by decide) (gx_iret (u := σ) E hK hP hD hS (Or.inl ⟨c_1, rfl, rfl⟩) dNr_next_9))
set_option maxHeartbeats 4000000 in
set_option maxRecDepth 100000 in
/-- a new object -/
theorem qNr_make (l : Launch) (hfl : l.stackTraces = false) (D : va_G) (cI cP : ClassId) (a : Nat → Nat) (σ : nSt) (x y : Int32) (f0 cs us : Nat) (hP0 : σ.P 0 0 = nI f0) (hP1 : σ.P 0 1 = nI cs) (hP2 : σ.P 0 2 = nI us) (hus : us ≤ cs) (hN : f0 + cs ≤ σ.N) (hN2 : σ.N ≤ 10241) : gv_M l yNr_make (Cond.code yNr_make cNr_make 5 (some .int) :: gW) (gRc 8 1 6) D gC (nrT cI cP) (nrW cI cP a) σ [.ref (a 0), .int x, .int y] (fun r u => (¬ isW x 0 200 = 0 ∧ ¬ isW y 0 200 = 0) ∧ ∃ nf nw, x = nI nf ∧ y = nI nw ∧ nf ≤ 200 ∧ nw ≤ 200 ∧ ((cs - us < 3 + nf + nw ∧ r = 0 ∧ u = σ) ∨ (3 + nf + nw ≤ cs - us ∧ r = nI (f0 + us) ∧ u = mkS σ x y (3 + nf + nw) (f0 + us)))) (fun E => E = xIA ∧ (isW x 0 200 = 0 ∨ isW y 0 200 = 0)) := by
  refine gv_M.of (cc := cNr_make) (maxL := 5) (ret := (some .int)) (by decide) rfl (Nat.le_of_ble_eq_true rfl) ?_
  intro p e s m args below meth c ls A E hex hZ hT hA hK hP hD hS hl
  obtain ⟨hx, hb, hr, hml, hts, hown, hlocks, hnm⟩ := id E
  have hg : ∀ w ∈ gW, w.before args s = true := fun w h => hts w (List.mem_cons_of_mem _ h)
  have hown : s.vm.findClass "NurseryRow" = some m.cls := hown
  have hl : lv_has ls 5 [(0, .ref (a 0)), (1, .int x), (2, .int y)] := hl
  refine lv_iload_n hx hb dNr_make_0 rfl (lv_at hl 1 rfl) ?_
  refine lv_iconst (v := 0) hx hb dNr_make_1 (by decide) ?_
  refine lv_sipush (v := 200) hx hb dNr_make_2 (by decide) ?_
  refine gx_callps (As := [.int x, .int 0, .int 200]) (rest := []) E (qNr_isWithin l D _ _ x 0 200) (gx_cwS hts l_Nr_34 k_Nr_isWithin kt_Nr_isWithin z_Nr n_Nr_isWithin ⟨by decide, by decide⟩) hK hP hD hl.1 rfl rfl (Nat.le_of_ble_eq_true rfl) ⟨Nat.zero_le _, Nat.zero_le _⟩ dNr_make_5 ?_
  refine lv_if_eq (tgt := 22) hx hb dNr_make_8 (by decide) (fun c_8 => ?_) (fun c_8 => ?_)
  · exact gv_throw (X := xIA) (tx := "no such object") (is := 72) (ix := 7) (rx := rxIA) E rfl hfl hex hZ hT hK hP hD hS hl.1 rIA0 rIA1 rIA2 rIA5 (by decide) kl_Nr_38 z_IllegalArgumentException (by decide) gx_IA gy_IA go_IA ⟨rfl, Or.inl c_8⟩ (by decide) (by decide) (by decide) (by decide) (by decide) (by decide) dNr_make_22 dNr_make_25 dNr_make_26 dNr_make_28 dNr_make_31
  · refine lv_iload_n hx hb dNr_make_11 rfl (lv_at hl 2 rfl) ?_
    refine lv_iconst (v := 0) hx hb dNr_make_12 (by decide) ?_
    refine lv_sipush (v := 200) hx hb dNr_make_13 (by decide) ?_
    refine gx_callps (As := [.int y, .int 0, .int 200]) (rest := []) E (qNr_isWithin l D _ _ y 0 200) (gx_cwS hts l_Nr_34 k_Nr_isWithin kt_Nr_isWithin z_Nr n_Nr_isWithin ⟨by decide, by decide⟩) hK hP hD hl.1 rfl rfl (Nat.le_of_ble_eq_true rfl) ⟨Nat.zero_le _, Nat.zero_le _⟩ dNr_make_16 ?_
    refine lv_if_ne (tgt := 32) hx hb dNr_make_19 (by decide) (fun c_19 => ?_) (fun c_19 => ?_)
    · obtain ⟨nf, hxn, -, hnf⟩ := isW_ne c_8 (show (0 : Int32) = nI 0 from rfl) (show (200 : Int32) = nI 200 from rfl) (by decide) (by decide)
      obtain ⟨nw, hyn, -, hnw⟩ := isW_ne c_19 (show (0 : Int32) = nI 0 from rfl) (show (200 : Int32) = nI 200 from rfl) (by decide) (by decide)
      refine lv_iconst (v := 3) hx hb dNr_make_32 (by decide) ?_
      refine lv_iload_n hx hb dNr_make_33 rfl (lv_at hl 1 rfl) ?_
      refine lv_iadd hx hb dNr_make_34 ?_
      refine lv_iload_n hx hb dNr_make_35 rfl (lv_at hl 2 rfl) ?_
      refine lv_iadd hx hb dNr_make_36 ?_
      refine gx_top (z := nI (3 + nf + nw)) (by rw [hxn, hyn, show (3 : Int32) = nI 3 from rfl, nI_add, nI_add]) ?_
      refine lv_istore_n (lv' := [(3, .int (nI (3 + nf + nw))), (0, .ref (a 0)), (1, .int x), (2, .int y)]) hx hb dNr_make_37 rfl hl (by decide) rfl (fun ls hl => ?_)
      refine lv_aload_n hx hb dNr_make_38 rfl (lv_at hl 1 rfl) ?_
      refine va_get (C := RNr) (T := TNr) (N := 10) (ci := 1) (v := .ref (a 1)) hx hb hg inNr hown hK hP 0 rfl rfl 0 (by decide) (hg _ f_Nr_11) (fun _ h9 => h9) rfl dNr_make_39 ?_
      refine lv_iconst (v := 0) hx hb dNr_make_42 (by decide) ?_
      refine va_aldq hx hb hK hP 1 1 rfl rfl (by unfold vp_in; decide) dNr_make_43 ?_
      refine gx_stk (st' := [.ref (a (2 + 0))]) rfl ?_
      refine gx_callp (C := "NurseryRow$Part") (As := []) (rest := []) E (nr_liftp (i := 0) (by decide) (qPt_free l D _ (a (2 + 0)) (σ.p 0))) (gx_cwV hts l_Nr_74 k_Pt_free ki_Pt_free ke_Pt_free z_Pt n_Pt_free ⟨by decide, by decide⟩) hK hP hD (va_recv hK hP (ci := 0) (q0 := 2) rfl rfl) hl.1 rfl rfl (Nat.le_of_ble_eq_true rfl) ⟨Nat.zero_le _, Nat.zero_le _⟩ dNr_make_44 ?_
      refine gx_top (z := (σ.P 0 1) - (σ.P 0 2)) rfl ?_
      refine lv_iload_n hx hb dNr_make_47 rfl (lv_at hl 0 rfl) ?_
      refine lv_icmp_ge (tgt := 53) hx hb dNr_make_48 (by decide) (fun c_48 => ?_) (fun c_48 => ?_)
      · have hfit : 3 + nf + nw ≤ cs - us := Nat.not_lt.mp fun z => by rw [hP1, hP2, pk_sub hus] at c_48; exact nI_ge z (by omega) c_48
        refine lv_aload_n hx hb dNr_make_53 rfl (lv_at hl 1 rfl) ?_
        refine va_get (C := RNr) (T := TNr) (N := 10) (ci := 1) (v := .ref (a 1)) hx hb hg inNr hown hK hP 0 rfl rfl 0 (by decide) (hg _ f_Nr_11) (fun _ h9 => h9) rfl dNr_make_54 ?_
        refine lv_iconst (v := 0) hx hb dNr_make_57 (by decide) ?_
        refine va_aldq hx hb hK hP 1 1 rfl rfl (by unfold vp_in; decide) dNr_make_58 ?_
        refine gx_stk (st' := [.ref (a (2 + 0))]) rfl ?_
        refine lv_iload_n hx hb dNr_make_59 rfl (lv_at hl 0 rfl) ?_
        refine gx_calli (C := "NurseryRow$Part") (As := [.int (nI (3 + nf + nw))]) (rest := []) E (nr_lifti (i := 0) (by decide) (qPt_take l D _ (a (2 + 0)) (σ.p 0) (nI (3 + nf + nw)))) (gx_cwV hts l_Nr_77 k_Pt_take ki_Pt_take ke_Pt_take z_Pt n_Pt_take ⟨by decide, by decide⟩) hK hP hD hS hA (va_recv hK hP (ci := 0) (q0 := 2) rfl rfl) hl.1 rfl rfl (Nat.le_of_ble_eq_true rfl) ⟨by decide, by decide⟩ dNr_make_60 (fun r_1 u_2 H locs hq_3 hP hD hS => ?_)
        obtain ⟨v, ⟨hr1, hv⟩, hu⟩ := hq_3
        subst hu; subst hv
        have hr1 : r_1 = (σ.P 0 0) + (σ.P 0 2) := hr1
        subst hr1
        have hP : va_P D gC (nrW cI cP a (σ.sP 0 (σ.P 0 0, σ.P 0 1, (σ.P 0 2) + (nI (3 + nf + nw)), (σ.P 0 3) + 1))) H := hP
        have hD : va_D A (nrW cI cP a (σ.sP 0 (σ.P 0 0, σ.P 0 1, (σ.P 0 2) + (nI (3 + nf + nw)), (σ.P 0 3) + 1))) := hD
        refine gx_top (z := nI (f0 + us)) (by rw [hP0, hP2, nI_add]) ?_
        refine lv_istore (lv' := [(4, .int (nI (f0 + us))), (3, .int (nI (3 + nf + nw))), (0, .ref (a 0)), (1, .int x), (2, .int y)]) hx hb dNr_make_63 hl (by decide) rfl (fun ls hl => ?_)
        refine lv_aload_n hx hb dNr_make_65 rfl (lv_at hl 2 rfl) ?_
        refine va_get (C := RNr) (T := TNr) (N := 10) (ci := 1) (v := .ref σ.hx) hx hb hg inNr hown hK hP 0 rfl rfl 3 (by decide) (hg _ f_Nr_23) (fun _ h9 => h9) rfl dNr_make_66 ?_
        refine lv_iload hx hb dNr_make_69 (lv_at hl 0 rfl) ?_
        refine lv_iload hx hb dNr_make_71 (lv_at hl 0 rfl) ?_
        refine lv_iload_n hx hb dNr_make_73 rfl (lv_at hl 1 rfl) ?_
        refine lv_iadd hx hb dNr_make_74 ?_
        refine lv_iconst (v := 0) hx hb dNr_make_75 (by decide) ?_
        refine gx_stk (st' := [.int 0, .int (nI (f0 + us + (3 + nf + nw))), .int (nI (f0 + us)), .ref (σ.sP 0 (σ.P 0 0, σ.P 0 1, (σ.P 0 2) + (nI (3 + nf + nw)), (σ.P 0 3) + 1)).hx]) (by rw [nI_add]; rfl) ?_
        refine gx_callvs (As := [.ref (σ.sP 0 (σ.P 0 0, σ.P 0 1, (σ.P 0 2) + (nI (3 + nf + nw)), (σ.P 0 3) + 1)).hx, .int (nI (f0 + us)), .int (nI (f0 + us + (3 + nf + nw))), .int 0]) (rest := []) E (nr_fillX 0 (f0 + us) (f0 + us + (3 + nf + nw)) (by omega) (show _ ≤ σ.N by omega) (show σ.N < _ by omega)) (gx_cwS hts l_Nr_81 k_Ar_fill4 kt_Ar_fill4 z_Ar n_Ar_fill4 ⟨by decide, by decide⟩) hK hP hD hS hA hl.1 rfl rfl (by decide) ⟨by decide, by decide⟩ dNr_make_76 (fun u_4 H locs hq_5 hP hD hS => ?_)
        subst hq_5
        have hP : va_P D gC (nrW cI cP a ((σ.sP 0 (σ.P 0 0, σ.P 0 1, (σ.P 0 2) + (nI (3 + nf + nw)), (σ.P 0 3) + 1)).sX (fillF σ.X (f0 + us) (f0 + us + (3 + nf + nw)) 0))) H := hP
        have hD : va_D A (nrW cI cP a ((σ.sP 0 (σ.P 0 0, σ.P 0 1, (σ.P 0 2) + (nI (3 + nf + nw)), (σ.P 0 3) + 1)).sX (fillF σ.X (f0 + us) (f0 + us + (3 + nf + nw)) 0))) := hD
        refine lv_aload_n hx hb dNr_make_79 rfl (lv_at hl 2 rfl) ?_
        refine va_get (C := RNr) (T := TNr) (N := 10) (ci := 1) (v := .ref σ.hx) hx hb hg inNr hown hK hP 0 rfl rfl 3 (by decide) (hg _ f_Nr_23) (fun _ h9 => h9) rfl dNr_make_80 ?_
        refine lv_iload hx hb dNr_make_83 (lv_at hl 0 rfl) ?_
        refine lv_iload_n hx hb dNr_make_85 rfl (lv_at hl 3 rfl) ?_
        refine va_iast hx hb hK hP hD hS 8 0 rfl rfl (vp_in_nI (show f0 + us < σ.N by omega) (show σ.N < 2 ^ 31 by omega)) dNr_make_86 (fun H locs hP hD hS => ?_)
        rw [nI_clamp (show f0 + us < 2 ^ 31 by omega)] at hP hD
        have hP : va_P D gC (nrW cI cP a (((σ.sP 0 (σ.P 0 0, σ.P 0 1, (σ.P 0 2) + (nI (3 + nf + nw)), (σ.P 0 3) + 1)).sX (fillF σ.X (f0 + us) (f0 + us + (3 + nf + nw)) 0)).sX (upd (fillF σ.X (f0 + us) (f0 + us + (3 + nf + nw)) 0) (f0 + us) x))) H := hP
        have hD : va_D A (nrW cI cP a (((σ.sP 0 (σ.P 0 0, σ.P 0 1, (σ.P 0 2) + (nI (3 + nf + nw)), (σ.P 0 3) + 1)).sX (fillF σ.X (f0 + us) (f0 + us + (3 + nf + nw)) 0)).sX (upd (fillF σ.X (f0 + us) (f0 + us + (3 + nf + nw)) 0) (f0 + us) x))) := hD
        refine lv_aload_n hx hb dNr_make_87 rfl (lv_at hl 2 rfl) ?_
        refine va_get (C := RNr) (T := TNr) (N := 10) (ci := 1) (v := .ref σ.hx) hx hb hg inNr hown hK hP 0 rfl rfl 3 (by decide) (hg _ f_Nr_23) (fun _ h9 => h9) rfl dNr_make_88 ?_
        refine lv_iload hx hb dNr_make_91 (lv_at hl 0 rfl) ?_
        refine lv_iconst (v := 1) hx hb dNr_make_93 (by decide) ?_
        refine lv_iadd hx hb dNr_make_94 ?_
        refine gx_top (z := nI (f0 + us + 1)) (nI_1 _) ?_
        refine lv_iload_n hx hb dNr_make_95 rfl (lv_at hl 4 rfl) ?_
        refine va_iast hx hb hK hP hD hS 8 0 rfl rfl (vp_in_nI (show f0 + us + 1 < σ.N by omega) (show σ.N < 2 ^ 31 by omega)) dNr_make_96 (fun H locs hP hD hS => ?_)
        rw [nI_clamp (show f0 + us + 1 < 2 ^ 31 by omega)] at hP hD
        have hP : va_P D gC (nrW cI cP a ((((σ.sP 0 (σ.P 0 0, σ.P 0 1, (σ.P 0 2) + (nI (3 + nf + nw)), (σ.P 0 3) + 1)).sX (fillF σ.X (f0 + us) (f0 + us + (3 + nf + nw)) 0)).sX (upd (fillF σ.X (f0 + us) (f0 + us + (3 + nf + nw)) 0) (f0 + us) x)).sX (upd (upd (fillF σ.X (f0 + us) (f0 + us + (3 + nf + nw)) 0) (f0 + us) x) (f0 + us + 1) y))) H := hP
        have hD : va_D A (nrW cI cP a ((((σ.sP 0 (σ.P 0 0, σ.P 0 1, (σ.P 0 2) + (nI (3 + nf + nw)), (σ.P 0 3) + 1)).sX (fillF σ.X (f0 + us) (f0 + us + (3 + nf + nw)) 0)).sX (upd (fillF σ.X (f0 + us) (f0 + us + (3 + nf + nw)) 0) (f0 + us) x)).sX (upd (upd (fillF σ.X (f0 + us) (f0 + us + (3 + nf + nw)) 0) (f0 + us) x) (f0 + us + 1) y))) := hD
        refine lv_iload hx hb dNr_make_97 (lv_at hl 0 rfl) ?_
        exact vx_ret (W.widen (k := 1) (n := 6) (by decide) (by decide) (gx_iret (u := (((σ.sP 0 (σ.P 0 0, σ.P 0 1, (σ.P 0 2) + (nI (3 + nf + nw)), (σ.P 0 3) + 1)).sX (fillF σ.X (f0 + us) (f0 + us + (3 + nf + nw)) 0)).sX (upd (fillF σ.X (f0 + us) (f0 + us + (3 + nf + nw)) 0) (f0 + us) x)).sX (upd (upd (fillF σ.X (f0 + us) (f0 + us + (3 + nf + nw)) 0) (f0 + us) x) (f0 + us + 1) y)) E hK hP hD hS ⟨⟨c_8, c_19⟩, nf, nw, hxn, hyn, hnf, hnw, Or.inr ⟨hfit, rfl, rfl⟩⟩ dNr_make_99))
      · refine lv_iconst (v := 0) hx hb dNr_make_51 (by decide) ?_
        exact vx_ret (W.widen (k := 1) (n := 6) (by decide) (by decide) (gx_iret (u := σ) E hK hP hD hS ⟨⟨c_8, c_19⟩, nf, nw, hxn, hyn, hnf, hnw, Or.inl ⟨Nat.not_le.mp fun z => c_48 (by rw [hP1, hP2, pk_sub hus]; exact nI_le z (by omega)), rfl, rfl⟩⟩ dNr_make_52))
    · exact gv_throw (X := xIA) (tx := "no such object") (is := 72) (ix := 7) (rx := rxIA) E rfl hfl hex hZ hT hK hP hD hS hl.1 rIA0 rIA1 rIA2 rIA5 (by decide) kl_Nr_38 z_IllegalArgumentException (by decide) gx_IA gy_IA go_IA ⟨rfl, Or.inr c_19⟩ (by decide) (by decide) (by decide) (by decide) (by decide) (by decide) dNr_make_22 dNr_make_25 dNr_make_26 dNr_make_28 dNr_make_31
end
section
/-! THE PUBLIC METHODS: space, collect; the cells' growing -/
set_option maxHeartbeats 4000000 in
set_option maxRecDepth 100000 in
/-- the cells grow, if they must -/
theorem qNr_growCells (l : Launch) (D : va_G) (cI cP : ClassId) (a : Nat → Nat) (σ : nSt) : gx_Mv l yNr_growCells (Cond.code yNr_growCells cNr_growCells 1 none :: gW) (gRc 1 1 10241) D gC (nrT cI cP) (nrW cI cP a) σ [.ref (a 0)] (fun u => grow σ u) := by
  refine gx_Mv.of (cc := cNr_growCells) (maxL := 1) (by decide) rfl (Nat.le_of_ble_eq_true rfl) ?_
  intro p e s m args below meth c ls A E hA hK hP hD hS hl
  obtain ⟨hx, hb, hr, hml, hts, hown, hlocks, hnm⟩ := id E
  have hg : ∀ w ∈ gW, w.before args s = true := fun w h => hts w (List.mem_cons_of_mem _ h)
  have hown : s.vm.findClass "NurseryRow" = some m.cls := hown
  have hl : lv_has ls 1 [(0, .ref (a 0))] := hl
  refine lv_aload_n hx hb dNr_growCells_0 rfl (lv_at hl 0 rfl) ?_
  refine va_get (C := RNr) (T := TNr) (N := 10) (ci := 1) (v := .ref σ.hx) hx hb hg inNr hown hK hP 0 rfl rfl 3 (by decide) (hg _ f_Nr_23) (fun _ h9 => h9) rfl dNr_growCells_1 ?_
  refine va_alen (v := nI σ.N) hx hb hK hP 8 0 rfl rfl rfl dNr_growCells_4 ?_
  refine lv_aload_n hx hb dNr_growCells_5 rfl (lv_at hl 0 rfl) ?_
  refine gx_callp (C := "NurseryRow") (As := []) (rest := [.int (nI σ.N)]) E (qNr_allCells l D cI cP a σ) (gx_cwV hts l_Nr_45 k_Nr_allCells ki_Nr_allCells ke_Nr_allCells z_Nr n_Nr_allCells ⟨by decide, by decide⟩) hK hP hD (va_recv hK hP (ci := 1) (q0 := 0) rfl rfl) hl.1 rfl rfl (Nat.le_of_ble_eq_true rfl) ⟨Nat.zero_le _, Nat.zero_le _⟩ dNr_growCells_6 ?_
  refine lv_icmp_gt (tgt := 21) hx hb dNr_growCells_9 (by decide) (fun c_9 => ?_) (fun c_9 => ?_)
  · refine W.widen (k := 1) (n := 10241) (by decide) (by decide) ?_
    exact gx_vret (u := σ) E hK hP hD hS (Or.inl ⟨c_9, rfl⟩) dNr_growCells_21
  · refine lv_aload_n hx hb dNr_growCells_12 rfl (lv_at hl 0 rfl) ?_
    refine lv_sipush (v := 10241) hx hb dNr_growCells_13 (by decide) ?_
    refine va_newa (atype := .int) (ty := .int) (N' := 10241) (a0 := (10241, .inl (fun _ => 0))) hx hb (hg _ ka_int) rfl hK hP hD hS hA (fun _ => rfl) (by decide) (by decide) (by decide) (by decide) (by decide) dNr_growCells_16 (fun q cA H hK2 hP hD hS => ?_)
    have hcA := gx_same (i := 0) (j := 2) hK2 rfl rfl
    subst hcA
    refine va_put (C := RNr) (T := TNr) (N := 10) (ci := 1) (v := .ref q) hx hb hg inNr tyNr tyNr_ok nmNr hown hK hP hD hS 0 rfl rfl 3 (by decide) (hg _ f_Nr_23) (fun _ h9 => h9) rfl (tyNr_ok 3 (by decide)) rfl rfl (Nat.le_of_ble_eq_true rfl) dNr_growCells_18 (fun H locs hP hD hS => ?_)
    have hP : va_P D gC (nrW cA cP a (σ.sN 10241 q (fun _ => 0))) H := hP.sub [0, 1, 2, 3, 4, 5, 6, 7, 9] rfl
    have hD : va_D A (nrW cA cP a (σ.sN 10241 q (fun _ => 0))) := hD.sub [0, 1, 2, 3, 4, 5, 6, 7, 9] (by decide) rfl
    exact gx_vret (u := σ.sN 10241 q (fun _ => 0)) E hK hP hD hS (Or.inr ⟨c_9, q, rfl⟩) dNr_growCells_21
set_option maxHeartbeats 4000000 in
set_option maxRecDepth 100000 in
/-- sizes -/
theorem qNr_space (l : Launch) (hfl : l.stackTraces = false) (D : va_G) (cI cP : ClassId) (a : Nat → Nat) (σ : nSt) (x : Int32) (y : Int32) (z : Int32) : gv_M l yNr_space (Cond.code yNr_space cNr_space 5 (some .int) :: gW) (gRc 8 1 10241) D gC (nrT cI cP) (nrW cI cP a) σ [.ref (a 0), .int x, .int y, .int z] (fun r u => (¬ isW x 16 1024 = 0 ∧ ¬ isW y 0 512 = 0 ∧ ¬ isW z 64 8192 = 0) ∧ r = allC σ ∧ ∃ v, grow (laid σ x y z) v ∧ u = ((((v.sR (fillF v.R 0 16 0)).sF 2 0).sF 3 0).sF 4 0).sF 5 0) (fun E => E = xIA ∧ (isW x 16 1024 = 0 ∨ isW y 0 512 = 0 ∨ isW z 64 8192 = 0)) := by
  refine gv_M.of (cc := cNr_space) (maxL := 5) (ret := (some .int)) (by decide) rfl (Nat.le_of_ble_eq_true rfl) ?_
  intro p e s m args below meth c ls A E hex hZ hT hA hK hP hD hS hl
  obtain ⟨hx, hb, hr, hml, hts, hown, hlocks, hnm⟩ := id E
  have hg : ∀ w ∈ gW, w.before args s = true := fun w h => hts w (List.mem_cons_of_mem _ h)
  have hown : s.vm.findClass "NurseryRow" = some m.cls := hown
  have hl : lv_has ls 5 [(0, .ref (a 0)), (1, .int x), (2, .int y), (3, .int z)] := hl
  refine lv_iload_n hx hb dNr_space_0 rfl (lv_at hl 1 rfl) ?_
  refine lv_bipush (v := 16) hx hb dNr_space_1 (by decide) ?_
  refine lv_sipush (v := 1024) hx hb dNr_space_3 (by decide) ?_
  refine gx_callps (As := [.int x, .int 16, .int 1024]) (rest := []) E (qNr_isWithin l D _ _ x 16 1024) (gx_cwS hts l_Nr_34 k_Nr_isWithin kt_Nr_isWithin z_Nr n_Nr_isWithin ⟨by decide, by decide⟩) hK hP hD hl.1 rfl rfl (Nat.le_of_ble_eq_true rfl) ⟨Nat.zero_le _, Nat.zero_le _⟩ dNr_space_6 ?_
  refine lv_if_eq (tgt := 35) hx hb dNr_space_9 (by decide) (fun c_9 => ?_) (fun c_9 => ?_)
  · exact gv_throw (X := xIA) (tx := "no such sizes") (is := 40) (ix := 7) (rx := rxIA) E rfl hfl hex hZ hT hK hP hD hS hl.1 rIA0 rIA1 rIA2 rIA5 (by decide) kl_Nr_38 z_IllegalArgumentException (by decide) gx_IA gy_IA go_IA ⟨rfl, Or.inl c_9⟩ (by decide) (by decide) (by decide) (by decide) (by decide) (by decide) dNr_space_35 dNr_space_38 dNr_space_39 dNr_space_41 dNr_space_44
  · refine lv_iload_n hx hb dNr_space_12 rfl (lv_at hl 2 rfl) ?_
    refine lv_iconst (v := 0) hx hb dNr_space_13 (by decide) ?_
    refine lv_sipush (v := 512) hx hb dNr_space_14 (by decide) ?_
    refine gx_callps (As := [.int y, .int 0, .int 512]) (rest := []) E (qNr_isWithin l D _ _ y 0 512) (gx_cwS hts l_Nr_34 k_Nr_isWithin kt_Nr_isWithin z_Nr n_Nr_isWithin ⟨by decide, by decide⟩) hK hP hD hl.1 rfl rfl (Nat.le_of_ble_eq_true rfl) ⟨Nat.zero_le _, Nat.zero_le _⟩ dNr_space_17 ?_
    refine lv_if_eq (tgt := 35) hx hb dNr_space_20 (by decide) (fun c_20 => ?_) (fun c_20 => ?_)
    · exact gv_throw (X := xIA) (tx := "no such sizes") (is := 40) (ix := 7) (rx := rxIA) E rfl hfl hex hZ hT hK hP hD hS hl.1 rIA0 rIA1 rIA2 rIA5 (by decide) kl_Nr_38 z_IllegalArgumentException (by decide) gx_IA gy_IA go_IA ⟨rfl, Or.inr (Or.inl c_20)⟩ (by decide) (by decide) (by decide) (by decide) (by decide) (by decide) dNr_space_35 dNr_space_38 dNr_space_39 dNr_space_41 dNr_space_44
    · refine lv_iload_n hx hb dNr_space_23 rfl (lv_at hl 3 rfl) ?_
      refine lv_bipush (v := 64) hx hb dNr_space_24 (by decide) ?_
      refine lv_sipush (v := 8192) hx hb dNr_space_26 (by decide) ?_
      refine gx_callps (As := [.int z, .int 64, .int 8192]) (rest := []) E (qNr_isWithin l D _ _ z 64 8192) (gx_cwS hts l_Nr_34 k_Nr_isWithin kt_Nr_isWithin z_Nr n_Nr_isWithin ⟨by decide, by decide⟩) hK hP hD hl.1 rfl rfl (Nat.le_of_ble_eq_true rfl) ⟨Nat.zero_le _, Nat.zero_le _⟩ dNr_space_29 ?_
      refine lv_if_ne (tgt := 45) hx hb dNr_space_32 (by decide) (fun c_32 => ?_) (fun c_32 => ?_)
      · refine lv_aload_n hx hb dNr_space_45 rfl (lv_at hl 0 rfl) ?_
        refine gx_callp (C := "NurseryRow") (As := []) (rest := []) E (qNr_allCells l D cI cP a σ) (gx_cwV hts l_Nr_45 k_Nr_allCells ki_Nr_allCells ke_Nr_allCells z_Nr n_Nr_allCells ⟨by decide, by decide⟩) hK hP hD (va_recv hK hP (ci := 1) (q0 := 0) rfl rfl) hl.1 rfl rfl (Nat.le_of_ble_eq_true rfl) ⟨Nat.zero_le _, Nat.zero_le _⟩ dNr_space_46 ?_
        refine lv_istore (lv' := [(4, .int (0 + σ.P 0 1 + σ.P 1 1 + σ.P 2 1 + σ.P 3 1)), (0, .ref (a 0)), (1, .int x), (2, .int y), (3, .int z)]) hx hb dNr_space_49 hl (by decide) rfl (fun ls hl => ?_)
        refine lv_aload_n hx hb dNr_space_51 rfl (lv_at hl 1 rfl) ?_
        refine lv_iload_n hx hb dNr_space_52 rfl (lv_at hl 2 rfl) ?_
        refine lv_iload_n hx hb dNr_space_53 rfl (lv_at hl 3 rfl) ?_
        refine lv_iload_n hx hb dNr_space_54 rfl (lv_at hl 4 rfl) ?_
        refine gx_callv (C := "NurseryRow") (As := [.int x, .int y, .int z]) (rest := []) E (qNr_layParts l D cI cP a σ x y z) (gx_cwV hts l_Nr_30 k_Nr_layParts ki_Nr_layParts ke_Nr_layParts z_Nr n_Nr_layParts ⟨by decide, by decide⟩) hK hP hD hS hA (va_recv hK hP (ci := 1) (q0 := 0) rfl rfl) hl.1 rfl rfl (Nat.le_of_ble_eq_true rfl) ⟨by decide, by decide⟩ dNr_space_55 (fun u_2 H locs hq_3 hP hD hS => ?_)
        have hq_3 : u_2 = laid σ x y z := hq_3
        subst hq_3
        have hP : va_P D gC (nrW cI cP a (laid σ x y z)) H := hP
        have hD : va_D A (nrW cI cP a (laid σ x y z)) := hD
        refine lv_aload_n hx hb dNr_space_58 rfl (lv_at hl 1 rfl) ?_
        refine gx_callv (C := "NurseryRow") (As := []) (rest := []) E (qNr_growCells l D cI cP a (laid σ x y z)) (gx_cwV hts l_Nr_49 k_Nr_growCells ki_Nr_growCells ke_Nr_growCells z_Nr n_Nr_growCells ⟨by decide, by decide⟩) hK hP hD hS hA (va_recv hK hP (ci := 1) (q0 := 0) rfl rfl) hl.1 rfl rfl (Nat.le_of_ble_eq_true rfl) ⟨by decide, by decide⟩ dNr_space_59 (fun u_5 H locs hq_6 hP hD hS => ?_)
        refine lv_aload_n hx hb dNr_space_62 rfl (lv_at hl 1 rfl) ?_
        refine va_get (C := RNr) (T := TNr) (N := 10) (ci := 1) (v := .ref (a 6)) hx hb hg inNr hown hK hP 0 rfl rfl 1 (by decide) (hg _ f_Nr_16) (fun _ h9 => h9) rfl dNr_space_63 ?_
        refine lv_iconst (v := 0) hx hb dNr_space_66 (by decide) ?_
        refine gx_callvs (As := [.ref (a 6), .int 0]) (rest := []) E (nr_fillR 0) (gx_cwS hts l_Nr_52 k_Ar_fill2 kt_Ar_fill2 z_Ar n_Ar_fill2 ⟨by decide, by decide⟩) hK hP hD hS hA hl.1 rfl rfl (by decide) ⟨by decide, by decide⟩ dNr_space_67 (fun u_7 H locs hq_8 hP hD hS => ?_)
        subst hq_8
        have hP : va_P D gC (nrW cI cP a (u_5.sR (fillF u_5.R 0 16 0))) H := hP
        have hD : va_D A (nrW cI cP a (u_5.sR (fillF u_5.R 0 16 0))) := hD
        refine lv_aload_n hx hb dNr_space_70 rfl (lv_at hl 1 rfl) ?_
        refine lv_iconst (v := 0) hx hb dNr_space_71 (by decide) ?_
        refine va_put (C := RNr) (T := TNr) (N := 10) (ci := 1) (v := .int 0) hx hb hg inNr tyNr tyNr_ok nmNr hown hK hP hD hS 0 rfl rfl 6 (by decide) (hg _ f_Nr_58) (fun _ h9 => h9) rfl (tyNr_ok 6 (by decide)) rfl rfl (Nat.le_of_ble_eq_true rfl) dNr_space_72 (fun H locs hP hD hS => ?_)
        have hP : va_P D gC (nrW cI cP a ((u_5.sR (fillF u_5.R 0 16 0)).sF 2 0)) H := hP
        have hD : va_D A (nrW cI cP a ((u_5.sR (fillF u_5.R 0 16 0)).sF 2 0)) := hD
        refine lv_aload_n hx hb dNr_space_75 rfl (lv_at hl 1 rfl) ?_
        refine lv_iconst (v := 0) hx hb dNr_space_76 (by decide) ?_
        refine va_put (C := RNr) (T := TNr) (N := 10) (ci := 1) (v := .int 0) hx hb hg inNr tyNr tyNr_ok nmNr hown hK hP hD hS 0 rfl rfl 7 (by decide) (hg _ f_Nr_61) (fun _ h9 => h9) rfl (tyNr_ok 7 (by decide)) rfl rfl (Nat.le_of_ble_eq_true rfl) dNr_space_77 (fun H locs hP hD hS => ?_)
        have hP : va_P D gC (nrW cI cP a (((u_5.sR (fillF u_5.R 0 16 0)).sF 2 0).sF 3 0)) H := hP
        have hD : va_D A (nrW cI cP a (((u_5.sR (fillF u_5.R 0 16 0)).sF 2 0).sF 3 0)) := hD
        refine lv_aload_n hx hb dNr_space_80 rfl (lv_at hl 1 rfl) ?_
        refine lv_iconst (v := 0) hx hb dNr_space_81 (by decide) ?_
        refine va_put (C := RNr) (T := TNr) (N := 10) (ci := 1) (v := .int 0) hx hb hg inNr tyNr tyNr_ok nmNr hown hK hP hD hS 0 rfl rfl 8 (by decide) (hg _ f_Nr_64) (fun _ h9 => h9) rfl (tyNr_ok 8 (by decide)) rfl rfl (Nat.le_of_ble_eq_true rfl) dNr_space_82 (fun H locs hP hD hS => ?_)
        have hP : va_P D gC (nrW cI cP a ((((u_5.sR (fillF u_5.R 0 16 0)).sF 2 0).sF 3 0).sF 4 0)) H := hP
        have hD : va_D A (nrW cI cP a ((((u_5.sR (fillF u_5.R 0 16 0)).sF 2 0).sF 3 0).sF 4 0)) := hD
        refine lv_aload_n hx hb dNr_space_85 rfl (lv_at hl 1 rfl) ?_
        refine lv_iconst (v := 0) hx hb dNr_space_86 (by decide) ?_
        refine va_put (C := RNr) (T := TNr) (N := 10) (ci := 1) (v := .int 0) hx hb hg inNr tyNr tyNr_ok nmNr hown hK hP hD hS 0 rfl rfl 9 (by decide) (hg _ f_Nr_67) (fun _ h9 => h9) rfl (tyNr_ok 9 (by decide)) rfl rfl (Nat.le_of_ble_eq_true rfl) dNr_space_87 (fun H locs hP hD hS => ?_)
        have hP : va_P D gC (nrW cI cP a (((((u_5.sR (fillF u_5.R 0 16 0)).sF 2 0).sF 3 0).sF 4 0).sF 5 0)) H := hP
        have hD : va_D A (nrW cI cP a (((((u_5.sR (fillF u_5.R 0 16 0)).sF 2 0).sF 3 0).sF 4 0).sF 5 0)) := hD
        refine lv_iload hx hb dNr_space_90 (lv_at hl 0 rfl) ?_
        exact vx_ret (W.widen (k := 1) (n := 10241) (by decide) (by decide) (gx_iret (u := ((((u_5.sR (fillF u_5.R 0 16 0)).sF 2 0).sF 3 0).sF 4 0).sF 5 0) E hK hP hD hS ⟨⟨c_9, c_20, c_32⟩, rfl, u_5, hq_6, rfl⟩ dNr_space_92))
      · exact gv_throw (X := xIA) (tx := "no such sizes") (is := 40) (ix := 7) (rx := rxIA) E rfl hfl hex hZ hT hK hP hD hS hl.1 rIA0 rIA1 rIA2 rIA5 (by decide) kl_Nr_38 z_IllegalArgumentException (by decide) gx_IA gy_IA go_IA ⟨rfl, Or.inr (Or.inr c_32)⟩ (by decide) (by decide) (by decide) (by decide) (by decide) (by decide) dNr_space_35 dNr_space_38 dNr_space_39 dNr_space_41 dNr_space_44
set_option maxHeartbeats 4000000 in
set_option maxRecDepth 100000 in
/-- a collection -/
theorem qNr_collect (l : Launch) (hfl : l.stackTraces = false) (D : va_G) (cI cP : ClassId) (a : Nat → Nat) (σ : nSt) (c0 : Nat) (r0 : Int32) (u0 : nSt) (hev : ¬ (σ.P 3 1 - σ.P 3 2 < σ.P 0 2 + σ.P (1 + c0) 2) → ColE σ c0 r0 u0) (hrw : rwI σ c0) (hN : σ.N < 2 ^ 31) : gv_M l yNr_collect (Cond.code yNr_collect cNr_collect 4 (some .int) :: gW) (gRc 8 1 6) D gC (nrT cI cP) (nrW cI cP a) σ [.ref (a 0)] (fun r u => ¬ (σ.P 3 1 - σ.P 3 2 < σ.P 0 2 + σ.P (1 + c0) 2) ∧ r = r0 ∧ u = u0) (fun E => E = xIS ∧ σ.P 3 1 - σ.P 3 2 < σ.P 0 2 + σ.P (1 + c0) 2) := by
  refine gv_M.of (cc := cNr_collect) (maxL := 4) (ret := (some .int)) (by decide) rfl (Nat.le_of_ble_eq_true rfl) ?_
  intro p e s m args below meth c ls A E hex hZ hT hA hK hP hD hS hl
  obtain ⟨hx, hb, hr, hml, hts, hown, hlocks, hnm⟩ := id E
  have hg : ∀ w ∈ gW, w.before args s = true := fun w h => hts w (List.mem_cons_of_mem _ h)
  have hown : s.vm.findClass "NurseryRow" = some m.cls := hown
  have hl : lv_has ls 4 [(0, .ref (a 0))] := hl
  rcases hrw with ⟨hrw, rfl⟩ | ⟨hrw, rfl⟩
  · refine lv_aload_n hx hb dNr_collect_0 rfl (lv_at hl 0 rfl) ?_
    refine va_get (C := RNr) (T := TNr) (N := 10) (ci := 1) (v := .ref (a 1)) hx hb hg inNr hown hK hP 0 rfl rfl 0 (by decide) (hg _ f_Nr_11) (fun _ h9 => h9) rfl dNr_collect_1 ?_
    refine lv_iconst (v := 0) hx hb dNr_collect_4 (by decide) ?_
    refine va_aldq hx hb hK hP 1 1 rfl rfl (by unfold vp_in; decide) dNr_collect_5 ?_
    refine gx_stk (st' := [.ref (a (2 + 0))]) rfl ?_
    refine lv_astore_n (lv' := [(1, .ref (a (2 + 0))), (0, .ref (a 0))]) hx hb dNr_collect_6 rfl hl (by decide) rfl (fun ls hl => ?_)
    refine lv_aload_n hx hb dNr_collect_7 rfl (lv_at hl 1 rfl) ?_
    refine va_get (C := RNr) (T := TNr) (N := 10) (ci := 1) (v := .ref (a 1)) hx hb hg inNr hown hK hP 0 rfl rfl 0 (by decide) (hg _ f_Nr_11) (fun _ h9 => h9) rfl dNr_collect_8 ?_
    refine lv_iconst (v := 1) hx hb dNr_collect_11 (by decide) ?_
    refine lv_aload_n hx hb dNr_collect_12 rfl (lv_at hl 1 rfl) ?_
    refine va_get (C := RNr) (T := TNr) (N := 10) (ci := 1) (v := .int (σ.F 2)) hx hb hg inNr hown hK hP 0 rfl rfl 6 (by decide) (hg _ f_Nr_58) (fun _ h9 => h9) rfl dNr_collect_13 ?_
    refine gx_top (z := 0) hrw ?_
    refine lv_iadd hx hb dNr_collect_16 ?_
    refine gx_top (z := 1) (by decide) ?_
    refine va_aldq hx hb hK hP 1 1 rfl rfl (by unfold vp_in; decide) dNr_collect_17 ?_
    refine gx_stk (st' := [.ref (a (2 + 1))]) rfl ?_
    refine lv_astore_n (lv' := [(2, .ref (a (2 + 1))), (1, .ref (a (2 + 0))), (0, .ref (a 0))]) hx hb dNr_collect_18 rfl hl (by decide) rfl (fun ls hl => ?_)
    refine lv_aload_n hx hb dNr_collect_19 rfl (lv_at hl 2 rfl) ?_
    refine va_get (C := RNr) (T := TNr) (N := 10) (ci := 1) (v := .ref (a 1)) hx hb hg inNr hown hK hP 0 rfl rfl 0 (by decide) (hg _ f_Nr_11) (fun _ h9 => h9) rfl dNr_collect_20 ?_
    refine lv_iconst (v := 3) hx hb dNr_collect_23 (by decide) ?_
    refine va_aldq hx hb hK hP 1 1 rfl rfl (by unfold vp_in; decide) dNr_collect_24 ?_
    refine gx_stk (st' := [.ref (a (2 + 3))]) rfl ?_
    refine gx_callp (C := "NurseryRow$Part") (As := []) (rest := []) E (nr_liftp (i := 3) (by decide) (qPt_free l D _ (a (2 + 3)) (σ.p 3))) (gx_cwV hts l_Nr_74 k_Pt_free ki_Pt_free ke_Pt_free z_Pt n_Pt_free ⟨by decide, by decide⟩) hK hP hD (va_recv hK hP (ci := 0) (q0 := 5) rfl rfl) hl.1 rfl rfl (Nat.le_of_ble_eq_true rfl) ⟨Nat.zero_le _, Nat.zero_le _⟩ dNr_collect_25 ?_
    refine gx_top (z := (σ.P 3 1) - (σ.P 3 2)) rfl ?_
    refine lv_aload_n hx hb dNr_collect_28 rfl (lv_at hl 1 rfl) ?_
    refine va_get (C := RPt) (T := TPt) (N := 4) (ci := 0) (v := .int (σ.P 0 2)) hx hb hg inPt hown hK hP 2 rfl rfl 2 (by decide) (hg _ f_Nr_112) (fun _ h9 => h9) rfl dNr_collect_29 ?_
    refine lv_aload_n hx hb dNr_collect_32 rfl (lv_at hl 0 rfl) ?_
    refine va_get (C := RPt) (T := TPt) (N := 4) (ci := 0) (v := .int (σ.P 1 2)) hx hb hg inPt hown hK hP 3 rfl rfl 2 (by decide) (hg _ f_Nr_112) (fun _ h9 => h9) rfl dNr_collect_33 ?_
    refine lv_iadd hx hb dNr_collect_36 ?_
    refine lv_icmp_ge (tgt := 50) hx hb dNr_collect_37 (by decide) (fun c_37 => ?_) (fun c_37 => ?_)
    · obtain ⟨n3, k0, nC, v1, v2, v3, hn3, hP33, hP30, hev1, hev2, hev3, hr0, hu0⟩ := hev (Int32.not_lt.mpr c_37)
      have hrw0 : rwI σ 0 := Or.inl ⟨hrw, rfl⟩
      have k1 := hev1.kept
      have k2 := hev2.kept
      have k3 := hev3.kept
      have hrw1 : rwI v1 0 := hrw0.of k1.1
      have hrw2 : rwI v2 0 := hrw1.of k2.1
      have n1 : v1.N = σ.N := k1.2.1
      have n2 : v2.N = v1.N := k2.2.1
      refine lv_aload_n hx hb dNr_collect_50 rfl (lv_at hl 2 rfl) ?_
      refine va_get (C := RNr) (T := TNr) (N := 10) (ci := 1) (v := .ref (a 1)) hx hb hg inNr hown hK hP 0 rfl rfl 0 (by decide) (hg _ f_Nr_11) (fun _ h9 => h9) rfl dNr_collect_51 ?_
      refine lv_iconst (v := 3) hx hb dNr_collect_54 (by decide) ?_
      refine va_aldq hx hb hK hP 1 1 rfl rfl (by unfold vp_in; decide) dNr_collect_55 ?_
      refine gx_stk (st' := [.ref (a (2 + 3))]) rfl ?_
      refine va_get (C := RPt) (T := TPt) (N := 4) (ci := 0) (v := .int (σ.P 3 3)) hx hb hg inPt hown hK hP 5 rfl rfl 3 (by decide) (hg _ f_Nr_120) (fun _ h9 => h9) rfl dNr_collect_56 ?_
      refine gx_top (z := nI n3) hP33 ?_
      refine lv_istore_n (lv' := [(3, .int (nI n3)), (2, .ref (a (2 + 1))), (1, .ref (a (2 + 0))), (0, .ref (a 0))]) hx hb dNr_collect_59 rfl hl (by decide) rfl (fun ls hl => ?_)
      refine lv_aload_n hx hb dNr_collect_60 rfl (lv_at hl 3 rfl) ?_
      refine lv_iconst (v := 0) hx hb dNr_collect_61 (by decide) ?_
      refine va_put (C := RNr) (T := TNr) (N := 10) (ci := 1) (v := .int 0) hx hb hg inNr tyNr tyNr_ok nmNr hown hK hP hD hS 0 rfl rfl 4 (by decide) (hg _ f_Nr_123) (fun _ h9 => h9) rfl (tyNr_ok 4 (by decide)) rfl rfl (Nat.le_of_ble_eq_true rfl) dNr_collect_62 (fun H locs hP hD hS => ?_)
      have hP : va_P D gC (nrW cI cP a (σ.sF 0 0)) H := hP
      have hD : va_D A (nrW cI cP a (σ.sF 0 0)) := hD
      refine lv_aload_n hx hb dNr_collect_65 rfl (lv_at hl 3 rfl) ?_
      refine gx_callv (C := "NurseryRow") (As := []) (rest := []) E (qNr_followRoots l D cI cP a (σ.sF 0 0) 0 v1 hev1 hrw0 hN) (gx_cwV hts l_Nr_126 k_Nr_followRoots ki_Nr_followRoots ke_Nr_followRoots z_Nr n_Nr_followRoots ⟨by decide, by decide⟩) hK hP hD hS hA (va_recv hK hP (ci := 1) (q0 := 0) rfl rfl) hl.1 rfl rfl (Nat.le_of_ble_eq_true rfl) ⟨by decide, by decide⟩ dNr_collect_66 (fun u_2 H locs hq_3 hP hD hS => ?_)
      subst hq_3
      refine lv_aload_n hx hb dNr_collect_69 rfl (lv_at hl 3 rfl) ?_
      refine lv_iload_n hx hb dNr_collect_70 rfl (lv_at hl 0 rfl) ?_
      refine gx_callv (C := "NurseryRow") (As := [.int (nI n3)]) (rest := []) E (qNr_followOld l D cI cP a u_2 0 n3 k0 v2 hn3 hP30 hev2 hrw1 (by omega)) (gx_cwV hts l_Nr_129 k_Nr_followOld ki_Nr_followOld ke_Nr_followOld z_Nr n_Nr_followOld ⟨by decide, by decide⟩) hK hP hD hS hA (va_recv hK hP (ci := 1) (q0 := 0) rfl rfl) hl.1 rfl rfl (Nat.le_of_ble_eq_true rfl) ⟨by decide, by decide⟩ dNr_collect_71 (fun u_5 H locs hq_6 hP hD hS => ?_)
      subst hq_6
      refine lv_aload_n hx hb dNr_collect_74 rfl (lv_at hl 3 rfl) ?_
      refine gx_callv (C := "NurseryRow") (As := []) (rest := []) E (qNr_followCopies l D cI cP a u_5 0 nC v3 hev3 hrw2 (by omega)) (gx_cwV hts l_Nr_133 k_Nr_followCopies ki_Nr_followCopies ke_Nr_followCopies z_Nr n_Nr_followCopies ⟨by decide, by decide⟩) hK hP hD hS hA (va_recv hK hP (ci := 1) (q0 := 0) rfl rfl) hl.1 rfl rfl (Nat.le_of_ble_eq_true rfl) ⟨by decide, by decide⟩ dNr_collect_75 (fun u_8 H locs hq_9 hP hD hS => ?_)
      subst hq_9
      refine lv_aload_n hx hb dNr_collect_78 rfl (lv_at hl 2 rfl) ?_
      refine gx_callv (C := "NurseryRow$Part") (As := []) (rest := []) E (nr_liftv (i := 0) (by decide) (qPt_empty l D _ (a (2 + 0)) (u_8.p 0))) (gx_cwV hts l_Nr_136 k_Pt_empty ki_Pt_empty ke_Pt_empty z_Pt n_Pt_empty ⟨by decide, by decide⟩) hK hP hD hS hA (va_recv hK hP (ci := 0) (q0 := 2) rfl rfl) hl.1 rfl rfl (Nat.le_of_ble_eq_true rfl) ⟨by decide, by decide⟩ dNr_collect_79 (fun u_11 H locs hq_12 hP hD hS => ?_)
      obtain ⟨v, hv, hu⟩ := hq_12
      subst hu; subst hv
      have hP : va_P D gC (nrW cI cP a (u_8.sP 0 (u_8.P 0 0, u_8.P 0 1, 0, 0))) H := hP
      have hD : va_D A (nrW cI cP a (u_8.sP 0 (u_8.P 0 0, u_8.P 0 1, 0, 0))) := hD
      refine lv_aload_n hx hb dNr_collect_82 rfl (lv_at hl 1 rfl) ?_
      refine gx_callv (C := "NurseryRow$Part") (As := []) (rest := []) E (nr_liftv (i := 1) (by decide) (qPt_empty l D _ (a (2 + 1)) ((u_8.sP 0 (u_8.P 0 0, u_8.P 0 1, 0, 0)).p 1))) (gx_cwV hts l_Nr_136 k_Pt_empty ki_Pt_empty ke_Pt_empty z_Pt n_Pt_empty ⟨by decide, by decide⟩) hK hP hD hS hA (va_recv hK hP (ci := 0) (q0 := 3) rfl rfl) hl.1 rfl rfl (Nat.le_of_ble_eq_true rfl) ⟨by decide, by decide⟩ dNr_collect_83 (fun u_14 H locs hq_15 hP hD hS => ?_)
      obtain ⟨v, hv, hu⟩ := hq_15
      subst hu; subst hv
      have hP : va_P D gC (nrW cI cP a ((u_8.sP 0 (u_8.P 0 0, u_8.P 0 1, 0, 0)).sP 1 (u_8.P 1 0, u_8.P 1 1, 0, 0))) H := hP
      have hD : va_D A (nrW cI cP a ((u_8.sP 0 (u_8.P 0 0, u_8.P 0 1, 0, 0)).sP 1 (u_8.P 1 0, u_8.P 1 1, 0, 0))) := hD
      refine lv_aload_n hx hb dNr_collect_86 rfl (lv_at hl 3 rfl) ?_
      refine lv_iconst (v := 1) hx hb dNr_collect_87 (by decide) ?_
      refine lv_aload_n hx hb dNr_collect_88 rfl (lv_at hl 3 rfl) ?_
      refine va_get (C := RNr) (T := TNr) (N := 10) (ci := 1) (v := .int (u_8.F 2)) hx hb hg inNr hown hK hP 0 rfl rfl 6 (by decide) (hg _ f_Nr_58) (fun _ h9 => h9) rfl dNr_collect_89 ?_
      refine lv_isub hx hb dNr_collect_92 ?_
      refine va_put (C := RNr) (T := TNr) (N := 10) (ci := 1) (v := .int (1 - (u_8.F 2))) hx hb hg inNr tyNr tyNr_ok nmNr hown hK hP hD hS 0 rfl rfl 6 (by decide) (hg _ f_Nr_58) (fun _ h9 => h9) rfl (tyNr_ok 6 (by decide)) rfl rfl (Nat.le_of_ble_eq_true rfl) dNr_collect_93 (fun H locs hP hD hS => ?_)
      have hP : va_P D gC (nrW cI cP a (((u_8.sP 0 (u_8.P 0 0, u_8.P 0 1, 0, 0)).sP 1 (u_8.P 1 0, u_8.P 1 1, 0, 0)).sF 2 (1 - (u_8.F 2)))) H := hP
      have hD : va_D A (nrW cI cP a (((u_8.sP 0 (u_8.P 0 0, u_8.P 0 1, 0, 0)).sP 1 (u_8.P 1 0, u_8.P 1 1, 0, 0)).sF 2 (1 - (u_8.F 2)))) := hD
      refine lv_aload_n hx hb dNr_collect_96 rfl (lv_at hl 3 rfl) ?_
      refine lv_dup hx hb dNr_collect_97 rfl ?_
      refine va_get (C := RNr) (T := TNr) (N := 10) (ci := 1) (v := .int (u_8.F 3)) hx hb hg inNr hown hK hP 0 rfl rfl 7 (by decide) (hg _ f_Nr_61) (fun _ h9 => h9) rfl dNr_collect_98 ?_
      refine lv_iconst (v := 1) hx hb dNr_collect_101 (by decide) ?_
      refine lv_iadd hx hb dNr_collect_102 ?_
      refine va_put (C := RNr) (T := TNr) (N := 10) (ci := 1) (v := .int ((u_8.F 3) + 1)) hx hb hg inNr tyNr tyNr_ok nmNr hown hK hP hD hS 0 rfl rfl 7 (by decide) (hg _ f_Nr_61) (fun _ h9 => h9) rfl (tyNr_ok 7 (by decide)) rfl rfl (Nat.le_of_ble_eq_true rfl) dNr_collect_103 (fun H locs hP hD hS => ?_)
      have hP : va_P D gC (nrW cI cP a ((((u_8.sP 0 (u_8.P 0 0, u_8.P 0 1, 0, 0)).sP 1 (u_8.P 1 0, u_8.P 1 1, 0, 0)).sF 2 (1 - (u_8.F 2))).sF 3 ((u_8.F 3) + 1))) H := hP
      have hD : va_D A (nrW cI cP a ((((u_8.sP 0 (u_8.P 0 0, u_8.P 0 1, 0, 0)).sP 1 (u_8.P 1 0, u_8.P 1 1, 0, 0)).sF 2 (1 - (u_8.F 2))).sF 3 ((u_8.F 3) + 1))) := hD
      refine lv_aload_n hx hb dNr_collect_106 rfl (lv_at hl 3 rfl) ?_
      refine va_get (C := RNr) (T := TNr) (N := 10) (ci := 1) (v := .int (u_8.F 0)) hx hb hg inNr hown hK hP 0 rfl rfl 4 (by decide) (hg _ f_Nr_123) (fun _ h9 => h9) rfl dNr_collect_107 ?_
      exact vx_ret (W.widen (k := 1) (n := 6) (by decide) (by decide) (gx_iret (u := (((u_8.sP 0 (u_8.P 0 0, u_8.P 0 1, 0, 0)).sP 1 (u_8.P 1 0, u_8.P 1 1, 0, 0)).sF 2 (1 - (u_8.F 2))).sF 3 ((u_8.F 3) + 1)) E hK hP hD hS ⟨Int32.not_lt.mpr c_37, hr0.symm, hu0.symm⟩ dNr_collect_110))
    · exact gv_throw (X := xIS) (tx := "OLD has too little room") (is := 117) (ix := 7) (rx := rxIS) E rfl hfl hex hZ hT hK hP hD hS hl.1 rIS0 rIS1 rIS2 rIS5 (by decide) kl_Nr_115 z_IllegalStateException (by decide) gx_IS gy_IS go_IS ⟨rfl, Int32.not_le.mp c_37⟩ (by decide) (by decide) (by decide) (by decide) (by decide) (by decide) dNr_collect_40 dNr_collect_43 dNr_collect_44 dNr_collect_46 dNr_collect_49
  · refine lv_aload_n hx hb dNr_collect_0 rfl (lv_at hl 0 rfl) ?_
    refine va_get (C := RNr) (T := TNr) (N := 10) (ci := 1) (v := .ref (a 1)) hx hb hg inNr hown hK hP 0 rfl rfl 0 (by decide) (hg _ f_Nr_11) (fun _ h9 => h9) rfl dNr_collect_1 ?_
    refine lv_iconst (v := 0) hx hb dNr_collect_4 (by decide) ?_
    refine va_aldq hx hb hK hP 1 1 rfl rfl (by unfold vp_in; decide) dNr_collect_5 ?_
    refine gx_stk (st' := [.ref (a (2 + 0))]) rfl ?_
    refine lv_astore_n (lv' := [(1, .ref (a (2 + 0))), (0, .ref (a 0))]) hx hb dNr_collect_6 rfl hl (by decide) rfl (fun ls hl => ?_)
    refine lv_aload_n hx hb dNr_collect_7 rfl (lv_at hl 1 rfl) ?_
    refine va_get (C := RNr) (T := TNr) (N := 10) (ci := 1) (v := .ref (a 1)) hx hb hg inNr hown hK hP 0 rfl rfl 0 (by decide) (hg _ f_Nr_11) (fun _ h9 => h9) rfl dNr_collect_8 ?_
    refine lv_iconst (v := 1) hx hb dNr_collect_11 (by decide) ?_
    refine lv_aload_n hx hb dNr_collect_12 rfl (lv_at hl 1 rfl) ?_
    refine va_get (C := RNr) (T := TNr) (N := 10) (ci := 1) (v := .int (σ.F 2)) hx hb hg inNr hown hK hP 0 rfl rfl 6 (by decide) (hg _ f_Nr_58) (fun _ h9 => h9) rfl dNr_collect_13 ?_
    refine gx_top (z := 1) hrw ?_
    refine lv_iadd hx hb dNr_collect_16 ?_
    refine gx_top (z := 2) (by decide) ?_
    refine va_aldq hx hb hK hP 1 1 rfl rfl (by unfold vp_in; decide) dNr_collect_17 ?_
    refine gx_stk (st' := [.ref (a (2 + 2))]) rfl ?_
    refine lv_astore_n (lv' := [(2, .ref (a (2 + 2))), (1, .ref (a (2 + 0))), (0, .ref (a 0))]) hx hb dNr_collect_18 rfl hl (by decide) rfl (fun ls hl => ?_)
    refine lv_aload_n hx hb dNr_collect_19 rfl (lv_at hl 2 rfl) ?_
    refine va_get (C := RNr) (T := TNr) (N := 10) (ci := 1) (v := .ref (a 1)) hx hb hg inNr hown hK hP 0 rfl rfl 0 (by decide) (hg _ f_Nr_11) (fun _ h9 => h9) rfl dNr_collect_20 ?_
    refine lv_iconst (v := 3) hx hb dNr_collect_23 (by decide) ?_
    refine va_aldq hx hb hK hP 1 1 rfl rfl (by unfold vp_in; decide) dNr_collect_24 ?_
    refine gx_stk (st' := [.ref (a (2 + 3))]) rfl ?_
    refine gx_callp (C := "NurseryRow$Part") (As := []) (rest := []) E (nr_liftp (i := 3) (by decide) (qPt_free l D _ (a (2 + 3)) (σ.p 3))) (gx_cwV hts l_Nr_74 k_Pt_free ki_Pt_free ke_Pt_free z_Pt n_Pt_free ⟨by decide, by decide⟩) hK hP hD (va_recv hK hP (ci := 0) (q0 := 5) rfl rfl) hl.1 rfl rfl (Nat.le_of_ble_eq_true rfl) ⟨Nat.zero_le _, Nat.zero_le _⟩ dNr_collect_25 ?_
    refine gx_top (z := (σ.P 3 1) - (σ.P 3 2)) rfl ?_
    refine lv_aload_n hx hb dNr_collect_28 rfl (lv_at hl 1 rfl) ?_
    refine va_get (C := RPt) (T := TPt) (N := 4) (ci := 0) (v := .int (σ.P 0 2)) hx hb hg inPt hown hK hP 2 rfl rfl 2 (by decide) (hg _ f_Nr_112) (fun _ h9 => h9) rfl dNr_collect_29 ?_
    refine lv_aload_n hx hb dNr_collect_32 rfl (lv_at hl 0 rfl) ?_
    refine va_get (C := RPt) (T := TPt) (N := 4) (ci := 0) (v := .int (σ.P 2 2)) hx hb hg inPt hown hK hP 4 rfl rfl 2 (by decide) (hg _ f_Nr_112) (fun _ h9 => h9) rfl dNr_collect_33 ?_
    refine lv_iadd hx hb dNr_collect_36 ?_
    refine lv_icmp_ge (tgt := 50) hx hb dNr_collect_37 (by decide) (fun c_37 => ?_) (fun c_37 => ?_)
    · obtain ⟨n3, k0, nC, v1, v2, v3, hn3, hP33, hP30, hev1, hev2, hev3, hr0, hu0⟩ := hev (Int32.not_lt.mpr c_37)
      have hrw0 : rwI σ 1 := Or.inr ⟨hrw, rfl⟩
      have k1 := hev1.kept
      have k2 := hev2.kept
      have k3 := hev3.kept
      have hrw1 : rwI v1 1 := hrw0.of k1.1
      have hrw2 : rwI v2 1 := hrw1.of k2.1
      have n1 : v1.N = σ.N := k1.2.1
      have n2 : v2.N = v1.N := k2.2.1
      refine lv_aload_n hx hb dNr_collect_50 rfl (lv_at hl 2 rfl) ?_
      refine va_get (C := RNr) (T := TNr) (N := 10) (ci := 1) (v := .ref (a 1)) hx hb hg inNr hown hK hP 0 rfl rfl 0 (by decide) (hg _ f_Nr_11) (fun _ h9 => h9) rfl dNr_collect_51 ?_
      refine lv_iconst (v := 3) hx hb dNr_collect_54 (by decide) ?_
      refine va_aldq hx hb hK hP 1 1 rfl rfl (by unfold vp_in; decide) dNr_collect_55 ?_
      refine gx_stk (st' := [.ref (a (2 + 3))]) rfl ?_
      refine va_get (C := RPt) (T := TPt) (N := 4) (ci := 0) (v := .int (σ.P 3 3)) hx hb hg inPt hown hK hP 5 rfl rfl 3 (by decide) (hg _ f_Nr_120) (fun _ h9 => h9) rfl dNr_collect_56 ?_
      refine gx_top (z := nI n3) hP33 ?_
      refine lv_istore_n (lv' := [(3, .int (nI n3)), (2, .ref (a (2 + 2))), (1, .ref (a (2 + 0))), (0, .ref (a 0))]) hx hb dNr_collect_59 rfl hl (by decide) rfl (fun ls hl => ?_)
      refine lv_aload_n hx hb dNr_collect_60 rfl (lv_at hl 3 rfl) ?_
      refine lv_iconst (v := 0) hx hb dNr_collect_61 (by decide) ?_
      refine va_put (C := RNr) (T := TNr) (N := 10) (ci := 1) (v := .int 0) hx hb hg inNr tyNr tyNr_ok nmNr hown hK hP hD hS 0 rfl rfl 4 (by decide) (hg _ f_Nr_123) (fun _ h9 => h9) rfl (tyNr_ok 4 (by decide)) rfl rfl (Nat.le_of_ble_eq_true rfl) dNr_collect_62 (fun H locs hP hD hS => ?_)
      have hP : va_P D gC (nrW cI cP a (σ.sF 0 0)) H := hP
      have hD : va_D A (nrW cI cP a (σ.sF 0 0)) := hD
      refine lv_aload_n hx hb dNr_collect_65 rfl (lv_at hl 3 rfl) ?_
      refine gx_callv (C := "NurseryRow") (As := []) (rest := []) E (qNr_followRoots l D cI cP a (σ.sF 0 0) 1 v1 hev1 hrw0 hN) (gx_cwV hts l_Nr_126 k_Nr_followRoots ki_Nr_followRoots ke_Nr_followRoots z_Nr n_Nr_followRoots ⟨by decide, by decide⟩) hK hP hD hS hA (va_recv hK hP (ci := 1) (q0 := 0) rfl rfl) hl.1 rfl rfl (Nat.le_of_ble_eq_true rfl) ⟨by decide, by decide⟩ dNr_collect_66 (fun u_17 H locs hq_18 hP hD hS => ?_)
      subst hq_18
      refine lv_aload_n hx hb dNr_collect_69 rfl (lv_at hl 3 rfl) ?_
      refine lv_iload_n hx hb dNr_collect_70 rfl (lv_at hl 0 rfl) ?_
      refine gx_callv (C := "NurseryRow") (As := [.int (nI n3)]) (rest := []) E (qNr_followOld l D cI cP a u_17 1 n3 k0 v2 hn3 hP30 hev2 hrw1 (by omega)) (gx_cwV hts l_Nr_129 k_Nr_followOld ki_Nr_followOld ke_Nr_followOld z_Nr n_Nr_followOld ⟨by decide, by decide⟩) hK hP hD hS hA (va_recv hK hP (ci := 1) (q0 := 0) rfl rfl) hl.1 rfl rfl (Nat.le_of_ble_eq_true rfl) ⟨by decide, by decide⟩ dNr_collect_71 (fun u_20 H locs hq_21 hP hD hS => ?_)
      subst hq_21
      refine lv_aload_n hx hb dNr_collect_74 rfl (lv_at hl 3 rfl) ?_
      refine gx_callv (C := "NurseryRow") (As := []) (rest := []) E (qNr_followCopies l D cI cP a u_20 1 nC v3 hev3 hrw2 (by omega)) (gx_cwV hts l_Nr_133 k_Nr_followCopies ki_Nr_followCopies ke_Nr_followCopies z_Nr n_Nr_followCopies ⟨by decide, by decide⟩) hK hP hD hS hA (va_recv hK hP (ci := 1) (q0 := 0) rfl rfl) hl.1 rfl rfl (Nat.le_of_ble_eq_true rfl) ⟨by decide, by decide⟩ dNr_collect_75 (fun u_23 H locs hq_24 hP hD hS => ?_)
      subst hq_24
      refine lv_aload_n hx hb dNr_collect_78 rfl (lv_at hl 2 rfl) ?_
      refine gx_callv (C := "NurseryRow$Part") (As := []) (rest := []) E (nr_liftv (i := 0) (by decide) (qPt_empty l D _ (a (2 + 0)) (u_23.p 0))) (gx_cwV hts l_Nr_136 k_Pt_empty ki_Pt_empty ke_Pt_empty z_Pt n_Pt_empty ⟨by decide, by decide⟩) hK hP hD hS hA (va_recv hK hP (ci := 0) (q0 := 2) rfl rfl) hl.1 rfl rfl (Nat.le_of_ble_eq_true rfl) ⟨by decide, by decide⟩ dNr_collect_79 (fun u_26 H locs hq_27 hP hD hS => ?_)
      obtain ⟨v, hv, hu⟩ := hq_27
      subst hu; subst hv
      have hP : va_P D gC (nrW cI cP a (u_23.sP 0 (u_23.P 0 0, u_23.P 0 1, 0, 0))) H := hP
      have hD : va_D A (nrW cI cP a (u_23.sP 0 (u_23.P 0 0, u_23.P 0 1, 0, 0))) := hD
      refine lv_aload_n hx hb dNr_collect_82 rfl (lv_at hl 1 rfl) ?_
      refine gx_callv (C := "NurseryRow$Part") (As := []) (rest := []) E (nr_liftv (i := 2) (by decide) (qPt_empty l D _ (a (2 + 2)) ((u_23.sP 0 (u_23.P 0 0, u_23.P 0 1, 0, 0)).p 2))) (gx_cwV hts l_Nr_136 k_Pt_empty ki_Pt_empty ke_Pt_empty z_Pt n_Pt_empty ⟨by decide, by decide⟩) hK hP hD hS hA (va_recv hK hP (ci := 0) (q0 := 4) rfl rfl) hl.1 rfl rfl (Nat.le_of_ble_eq_true rfl) ⟨by decide, by decide⟩ dNr_collect_83 (fun u_29 H locs hq_30 hP hD hS => ?_)
      obtain ⟨v, hv, hu⟩ := hq_30
      subst hu; subst hv
      have hP : va_P D gC (nrW cI cP a ((u_23.sP 0 (u_23.P 0 0, u_23.P 0 1, 0, 0)).sP 2 (u_23.P 2 0, u_23.P 2 1, 0, 0))) H := hP
      have hD : va_D A (nrW cI cP a ((u_23.sP 0 (u_23.P 0 0, u_23.P 0 1, 0, 0)).sP 2 (u_23.P 2 0, u_23.P 2 1, 0, 0))) := hD
      refine lv_aload_n hx hb dNr_collect_86 rfl (lv_at hl 3 rfl) ?_
      refine lv_iconst (v := 1) hx hb dNr_collect_87 (by decide) ?_
      refine lv_aload_n hx hb dNr_collect_88 rfl (lv_at hl 3 rfl) ?_
      refine va_get (C := RNr) (T := TNr) (N := 10) (ci := 1) (v := .int (u_23.F 2)) hx hb hg inNr hown hK hP 0 rfl rfl 6 (by decide) (hg _ f_Nr_58) (fun _ h9 => h9) rfl dNr_collect_89 ?_
      refine lv_isub hx hb dNr_collect_92 ?_
      refine va_put (C := RNr) (T := TNr) (N := 10) (ci := 1) (v := .int (1 - (u_23.F 2))) hx hb hg inNr tyNr tyNr_ok nmNr hown hK hP hD hS 0 rfl rfl 6 (by decide) (hg _ f_Nr_58) (fun _ h9 => h9) rfl (tyNr_ok 6 (by decide)) rfl rfl (Nat.le_of_ble_eq_true rfl) dNr_collect_93 (fun H locs hP hD hS => ?_)
      have hP : va_P D gC (nrW cI cP a (((u_23.sP 0 (u_23.P 0 0, u_23.P 0 1, 0, 0)).sP 2 (u_23.P 2 0, u_23.P 2 1, 0, 0)).sF 2 (1 - (u_23.F 2)))) H := hP
      have hD : va_D A (nrW cI cP a (((u_23.sP 0 (u_23.P 0 0, u_23.P 0 1, 0, 0)).sP 2 (u_23.P 2 0, u_23.P 2 1, 0, 0)).sF 2 (1 - (u_23.F 2)))) := hD
      refine lv_aload_n hx hb dNr_collect_96 rfl (lv_at hl 3 rfl) ?_
      refine lv_dup hx hb dNr_collect_97 rfl ?_
      refine va_get (C := RNr) (T := TNr) (N := 10) (ci := 1) (v := .int (u_23.F 3)) hx hb hg inNr hown hK hP 0 rfl rfl 7 (by decide) (hg _ f_Nr_61) (fun _ h9 => h9) rfl dNr_collect_98 ?_
      refine lv_iconst (v := 1) hx hb dNr_collect_101 (by decide) ?_
      refine lv_iadd hx hb dNr_collect_102 ?_
      refine va_put (C := RNr) (T := TNr) (N := 10) (ci := 1) (v := .int ((u_23.F 3) + 1)) hx hb hg inNr tyNr tyNr_ok nmNr hown hK hP hD hS 0 rfl rfl 7 (by decide) (hg _ f_Nr_61) (fun _ h9 => h9) rfl (tyNr_ok 7 (by decide)) rfl rfl (Nat.le_of_ble_eq_true rfl) dNr_collect_103 (fun H locs hP hD hS => ?_)
      have hP : va_P D gC (nrW cI cP a ((((u_23.sP 0 (u_23.P 0 0, u_23.P 0 1, 0, 0)).sP 2 (u_23.P 2 0, u_23.P 2 1, 0, 0)).sF 2 (1 - (u_23.F 2))).sF 3 ((u_23.F 3) + 1))) H := hP
      have hD : va_D A (nrW cI cP a ((((u_23.sP 0 (u_23.P 0 0, u_23.P 0 1, 0, 0)).sP 2 (u_23.P 2 0, u_23.P 2 1, 0, 0)).sF 2 (1 - (u_23.F 2))).sF 3 ((u_23.F 3) + 1))) := hD
      refine lv_aload_n hx hb dNr_collect_106 rfl (lv_at hl 3 rfl) ?_
      refine va_get (C := RNr) (T := TNr) (N := 10) (ci := 1) (v := .int (u_23.F 0)) hx hb hg inNr hown hK hP 0 rfl rfl 4 (by decide) (hg _ f_Nr_123) (fun _ h9 => h9) rfl dNr_collect_107 ?_
      exact vx_ret (W.widen (k := 1) (n := 6) (by decide) (by decide) (gx_iret (u := (((u_23.sP 0 (u_23.P 0 0, u_23.P 0 1, 0, 0)).sP 2 (u_23.P 2 0, u_23.P 2 1, 0, 0)).sF 2 (1 - (u_23.F 2))).sF 3 ((u_23.F 3) + 1)) E hK hP hD hS ⟨Int32.not_lt.mpr c_37, hr0.symm, hu0.symm⟩ dNr_collect_110))
    · exact gv_throw (X := xIS) (tx := "OLD has too little room") (is := 117) (ix := 7) (rx := rxIS) E rfl hfl hex hZ hT hK hP hD hS hl.1 rIS0 rIS1 rIS2 rIS5 (by decide) kl_Nr_115 z_IllegalStateException (by decide) gx_IS gy_IS go_IS ⟨rfl, Int32.not_le.mp c_37⟩ (by decide) (by decide) (by decide) (by decide) (by decide) (by decide) dNr_collect_40 dNr_collect_43 dNr_collect_44 dNr_collect_46 dNr_collect_49
end
section
/-! THE CLASS'S CONSTRUCTOR -/
theorem gx_refs {D : va_G} {cl : List vw_C} {A : Nat → Prop} {ws : va_W} {H : Heap} {k q n : Nat} {c : ClassId} {g g' : Nat → Option Nat} (hP : va_P D cl ws H) (hD : va_D A ws) (hk : ws[k]? = some (q, .inl (c, n, .inr (.inr (.inr (.inr g)))))) (h : ∀ j, j < n → g j = g' j) :
    va_P D cl (ws.set k (q, .inl (c, n, .inr (.inr (.inr (.inr g')))))) H := by
  refine hP.set hD hk ?_ (fun _ _ => rfl)
  have h1 : H[q]? = some (vp_cell c (n, .inr (.inr (.inr (.inr g))))) := hP k _ hk
  show H[q]? = some (vp_cell c (n, .inr (.inr (.inr (.inr g')))))
  rw [h1]
  have e : (fun j : Fin n => va_rf (g j.val)) = fun j : Fin n => va_rf (g' j.val) := funext fun j => by rw [h j.val j.isLt]
  show some (arrV c n (fun j => va_rf (g j))) = some (arrV c n (fun j => va_rf (g' j)))
  simp only [arrV, e]
theorem wnInit : va_Nw (.methodLinkNest "NurseryRow" 15 yPt_init "NurseryRow") = va_Nw (.methodLinkNest "NurseryRow" 15 yPt_init "NurseryRow") := rfl
set_option maxHeartbeats 4000000 in
set_option maxRecDepth 100000 in
/-- nothing happens -/
theorem qPt_init (l : Launch) (D : va_G) (tys : List (ClassId × FieldType)) (h : Nat) (u : pSt) : gx_Mv l yPt_init (Cond.code yPt_init cPt_init 1 none :: gW) (gR 1) D gC tys (ptW h) u [.ref h] (fun v => v = u) := by
  refine gx_Mv.of (cc := cPt_init) (maxL := 1) (by decide) rfl (Nat.le_of_ble_eq_true rfl) ?_
  intro p e s m args below meth c ls A E hA hK hP hD hS hl
  obtain ⟨hx, hb, hr, hml, hts, hown, hlocks, hnm⟩ := id E
  have hg : ∀ w ∈ gW, w.before args s = true := fun w h => hts w (List.mem_cons_of_mem _ h)
  have hown : s.vm.findClass "NurseryRow$Part" = some m.cls := hown
  have hl : lv_has ls 1 [(0, .ref h)] := hl
  refine lv_aload_n hx hb dPt_init_0 rfl (lv_at hl 0 rfl) ?_
  refine W.objInit hx hb hown (hg _ l_Pt_1) (hg _ ko_i) (hg _ ko_c) rfl (by rw [hml]; exact hl.1) rfl dPt_init_1 (by decide) (Nat.le_of_ble_eq_true rfl) ?_
  refine W.eq (g2 := F0 m 4 ls []) rfl ?_
  exact gx_vret (u := u) E hK hP hD hS rfl dPt_init_4
/-- a fresh class's state; its cells lie at h -/
def nrS1 (h : Nat) : nSt := (fun k => if k = 1 then 3 else 0, fun _ _ => 0, fun _ => 0, fun _ => 0, fun _ => 0, 2433, h)
def nrS0 (h : Nat) : nSt := laid (nrS1 h) 256 64 2048
/-- its cells' places, one by one -/
def ad8 (a0 a1 a2 a3 a4 a5 a6 a7 : Nat) : Nat → Nat := fun j => match j with
  | 0 => a0
  | 1 => a1
  | 2 => a2
  | 3 => a3
  | 4 => a4
  | 5 => a5
  | 6 => a6
  | _ => a7
set_option maxHeartbeats 8000000 in
set_option maxRecDepth 100000 in
/-- the constructor: eight cells come -/
theorem qNr_init (l : Launch) (D : va_G) (h0 sz : Nat) : Met l yNr_init (Cond.code yNr_init cNr_init 2 none :: gW) (gRc 3 8 2981) (va_Pc [.ref h0] (fun U => (U.heap.size = sz ∧ va_P D gC [(h0, .inr (1, [.null, .null, .null, .null, .int 0, .int 0, .int 0, .int 0, .int 0, .int 0]))] U.heap ∧ va_K D gC [] U ∧ va_D (fun _ => True) [(h0, .inr (1, [.null, .null, .null, .null, .int 0, .int 0, .int 0, .int 0, .int 0, .int 0]))]) ∧ va_AO "NurseryRow$Part" U ∧ va_Nw (.methodLinkNest "NurseryRow" 15 yPt_init "NurseryRow") U)) (va_Qv (fun u : ClassId × ClassId × (Nat → Nat) × nSt => u.2.2.1 0 = h0 ∧ u.2.2.2 = nrS0 u.2.2.2.hx) (fun u t => va_P D gC (nrW u.1 u.2.1 u.2.2.1 u.2.2.2) t.heap ∧ va_K D gC (nrT u.1 u.2.1) t ∧ va_D (va_A [(h0, .inr (1, [.null, .null, .null, .null, .int 0, .int 0, .int 0, .int 0, .int 0, .int 0]))] sz) (nrW u.1 u.2.1 u.2.2.1 u.2.2.2)) (va_A [(h0, .inr (1, [.null, .null, .null, .null, .int 0, .int 0, .int 0, .int 0, .int 0, .int 0]))] sz)) 8 2981 (va_A [(h0, .inr (1, [.null, .null, .null, .null, .int 0, .int 0, .int 0, .int 0, .int 0, .int 0]))] sz) := by
  refine Met.ofW (cc := cNr_init) (maxL := 2) (ret := none) (by decide) rfl ?_
  intro p e s m args below meth c s₁ B hml hv
  obtain ⟨rfl, ⟨hsz, hP, hK, hD0⟩, hAO, hNw⟩ := hv
  subst hsz
  have E : gx_E p s m _ meth c cNr_init none 2 (Cond.code yNr_init cNr_init 2 none :: gW) yNr_init := ⟨B.exec, B.bytes, B.returns, hml, atoms_spec (ws := Cond.code yNr_init cNr_init 2 none :: gW) B.pre, findClass_of_methodNamed B.named, B.notSynchronized, (name_of_methodNamed B.named B.method).1⟩
  have hD := hD0.self (sz := s.heap.size)
  generalize hAe : va_A [(h0, .inr (1, [.null, .null, .null, .null, .int 0, .int 0, .int 0, .int 0, .int 0, .int 0]))] s.heap.size = A at hD ⊢
  have hA : ∀ q : Nat, s.heap.size ≤ q → A q := fun q h => by rw [← hAe]; exact Or.inr h
  have hS : va_S A s.heap s.heap [] := va_S.rf
  have hl := lv_entry ([.ref h0]) (n := 2) (Nat.le_of_ble_eq_true rfl)
  rw [lg_entry_eq]
  generalize (lg_sl ([.ref h0]) ++ List.replicate (2 - (lg_sl ([.ref h0])).length) Slot.unset).toArray = ls at hl ⊢
  have hl : lv_has ls 2 [(0, .ref h0)] := hl
  obtain ⟨hx, hb, hr, hml, hts, hown, hlocks, hnm⟩ := id E
  have hg : ∀ w ∈ gW, w.before _ s = true := fun w h => hts w (List.mem_cons_of_mem _ h)
  have hown : s.vm.findClass "NurseryRow" = some m.cls := hown
  refine lv_aload_n hx hb dNr_init_0 rfl (lv_at hl 0 rfl) ?_
  refine W.objInit hx hb hown (hg _ l_Nr_3) (hg _ ko_i) (hg _ ko_c) rfl (by rw [hml]; exact hl.1) rfl dNr_init_1 (by decide) (Nat.le_of_ble_eq_true rfl) ?_
  refine W.eq (g2 := F0 m 4 ls []) rfl ?_
  refine lv_aload_n hx hb dNr_init_4 rfl (lv_at hl 0 rfl) ?_
  refine lv_iconst (v := 4) hx hb dNr_init_5 (by decide) ?_
  refine va_newq (C := "NurseryRow$Part") (N' := 4) hx hb hown (hg _ kl_Nr_9) hAO hK hP hD hS hA (by decide) (by decide) (by decide) (by decide) (by decide) dNr_init_6 (fun hp cP H hK hP hD hS => ?_)
  have hK : va_K D gC [(cP, .object "NurseryRow$Part")] s := hK
  have hP : va_P D gC [(h0, .inr (1, [.null, .null, .null, .null, .int 0, .int 0, .int 0, .int 0, .int 0, .int 0])), (hp, .inl (cP, 4, .inr (.inr (.inr (.inr (fun _ => none))))))] H := hP
  have hD : va_D A [(h0, .inr (1, [.null, .null, .null, .null, .int 0, .int 0, .int 0, .int 0, .int 0, .int 0])), (hp, .inl (cP, 4, .inr (.inr (.inr (.inr (fun _ => none))))))] := hD
  refine W.widen (k := 1) (n := 4) (by decide) (by decide) ?_
  refine va_putF (C := RNr) (T := TNr) (N := 10) (ci := 1) (v := .ref hp) hx hb hg inNr tyNr tyNr_ok nmNr hown hK hP hD hS 0 rfl rfl 0 (by decide) (hg _ f_Nr_11) (fun _ h9 => h9) rfl hnm rfl (tyNr_ok 0 (by decide)) rfl rfl (Nat.le_of_ble_eq_true rfl) dNr_init_9 (fun H locs hP hD hS => ?_)
  have hP : va_P D gC [(h0, .inr (1, [.ref hp, .null, .null, .null, .int 0, .int 0, .int 0, .int 0, .int 0, .int 0])), (hp, .inl (cP, 4, .inr (.inr (.inr (.inr (fun _ => none))))))] H := hP
  have hD : va_D A [(h0, .inr (1, [.ref hp, .null, .null, .null, .int 0, .int 0, .int 0, .int 0, .int 0, .int 0])), (hp, .inl (cP, 4, .inr (.inr (.inr (.inr (fun _ => none))))))] := hD
  refine lv_iconst (v := 0) hx hb dNr_init_12 (by decide) ?_
  refine lv_istore_n (lv' := [(1, .int 0), (0, .ref h0)]) hx hb dNr_init_13 rfl hl (by decide) rfl (fun ls hl => ?_)
  refine lv_iload_n hx hb dNr_init_14 rfl (lv_at hl 0 rfl) ?_
  refine lv_iconst (v := 4) hx hb dNr_init_15 (by decide) ?_
  refine lv_icmp_ge (tgt := 38) hx hb dNr_init_16 (by decide) (fun c_16 => ?_) (fun c_16 => ?_)
  · exact absurd c_16 (by decide)
  · refine lv_aload_n hx hb dNr_init_19 rfl (lv_at hl 1 rfl) ?_
    refine va_get (C := RNr) (T := TNr) (N := 10) (ci := 1) (v := .ref hp) hx hb hg inNr hown hK hP 0 rfl rfl 0 (by decide) (hg _ f_Nr_11) (fun _ h9 => h9) rfl dNr_init_20 ?_
    refine lv_iload_n hx hb dNr_init_23 rfl (lv_at hl 0 rfl) ?_
    refine va_new (C := RPt) (T := TPt) (N := 4) (ci := 0) (fs := [.int 0, .int 0, .int 0, .int 0]) hx hb hg inPt tyPt tyPt_ok hown (hg _ kl_Nr_9) (hg _ kn_Pt) (hg _ z_Pt) hK hP hD hS hA rfl (fun j hj => by rcases (show j = 0 ∨ j = 1 ∨ j = 2 ∨ j = 3 by omega) with rfl | rfl | rfl | rfl <;> rfl) (by decide) (by decide) dNr_init_24 (fun p0 H hP hD hS => ?_)
    have hP : va_P D gC [(h0, .inr (1, [.ref hp, .null, .null, .null, .int 0, .int 0, .int 0, .int 0, .int 0, .int 0])), (hp, .inl (cP, 4, .inr (.inr (.inr (.inr (fun _ => none)))))), (p0, .inr (0, [.int 0, .int 0, .int 0, .int 0]))] H := hP
    have hD : va_D A [(h0, .inr (1, [.ref hp, .null, .null, .null, .int 0, .int 0, .int 0, .int 0, .int 0, .int 0])), (hp, .inl (cP, 4, .inr (.inr (.inr (.inr (fun _ => none)))))), (p0, .inr (0, [.int 0, .int 0, .int 0, .int 0]))] := hD
    refine W.widen (k := 2) (n := 8) (by decide) (by decide) ?_
    refine lv_dup hx hb dNr_init_27 rfl ?_
    have hFc := va_free (wc := ptW p0 (0, 0, 0, 0)) hD hS hA [2] rfl
    have hPc : va_P D gC (ptW p0 (0, 0, 0, 0)) H := hP.sub [2] rfl
    have hDc : va_D A (ptW p0 (0, 0, 0, 0)) := hD.sub [2] rfl rfl
    refine va_callv (va_runIN (host := "NurseryRow") (As := []) (rest := [.ref p0, .int 0, .ref hp]) ⟨hx, hb, hml, hown, hts⟩ (qPt_init l D _ p0 (0, 0, 0, 0) H.size) ⟨va_cnB 0 hts (fun w h => by rcases List.mem_cons.mp h with h | h; rw [h]; exact gm_self _ k_Pt_init; exact gm_self _ h) rfl rfl rfl hNw (hg _ z_Pt) n_Pt_init.2 ⟨by decide, by decide⟩, rfl, hg _ ki_Pt_init⟩ ⟨gx_blind, gx_pre hPc hK hDc⟩ rfl rfl hl.1 rfl (lv_room (Nat.le_of_ble_eq_true rfl)) dNr_init_28 ⟨by decide, by decide⟩) hS (fun q _ h => hFc q h) hFc (fun u t H1 locs ht hvm hw hB hz1 hk1 hS => ?_)
    obtain ⟨hP1, hK1, hD1⟩ := hB
    subst hw
    rw [ht] at hP1
    obtain ⟨hP, hD⟩ := va_join (wr := [(h0, .inr (1, [.ref hp, .null, .null, .null, .int 0, .int 0, .int 0, .int 0, .int 0, .int 0])), (hp, .inl (cP, 4, .inr (.inr (.inr (.inr (fun _ => none))))))]) (w1 := ptW p0 (0, 0, 0, 0)) hP hD [2] [0, 1] rfl rfl (by decide) (by decide) hk1 hFc hP1 hD1
    generalize H1 = H at hP hS ⊢
    have hP : va_P D gC [(h0, .inr (1, [.ref hp, .null, .null, .null, .int 0, .int 0, .int 0, .int 0, .int 0, .int 0])), (hp, .inl (cP, 4, .inr (.inr (.inr (.inr (fun _ => none)))))), (p0, .inr (0, [.int 0, .int 0, .int 0, .int 0]))] H := hP
    have hD : va_D A [(h0, .inr (1, [.ref hp, .null, .null, .null, .int 0, .int 0, .int 0, .int 0, .int 0, .int 0])), (hp, .inl (cP, 4, .inr (.inr (.inr (.inr (fun _ => none)))))), (p0, .inr (0, [.int 0, .int 0, .int 0, .int 0]))] := hD
    refine W.widen (k := 2) (n := 8) (by decide) (by decide) ?_
    refine va_astq hx hb hK hP hD hS 1 0 2 0 rfl rfl rfl rfl (by unfold vp_in; decide) dNr_init_31 (fun H locs hP hD hS => ?_)
    have hP : va_P D gC [(h0, .inr (1, [.ref hp, .null, .null, .null, .int 0, .int 0, .int 0, .int 0, .int 0, .int 0])), (hp, .inl (cP, 4, .inr (.inr (.inr (.inr (va_up (fun _ => none) 0 (some p0))))))), (p0, .inr (0, [.int 0, .int 0, .int 0, .int 0]))] H := hP
    have hD : va_D A [(h0, .inr (1, [.ref hp, .null, .null, .null, .int 0, .int 0, .int 0, .int 0, .int 0, .int 0])), (hp, .inl (cP, 4, .inr (.inr (.inr (.inr (va_up (fun _ => none) 0 (some p0))))))), (p0, .inr (0, [.int 0, .int 0, .int 0, .int 0]))] := hD
    refine lv_iinc (v := 1) (lv' := [(1, .int 1), (0, .ref h0)]) hx hb dNr_init_32 hl (k := 0) rfl (by decide) (by decide) rfl (fun ls hl => ?_)
    refine lv_goto (tgt := 14) hx hb dNr_init_35 (by decide) ?_
    refine lv_iload_n hx hb dNr_init_14 rfl (lv_at hl 0 rfl) ?_
    refine lv_iconst (v := 4) hx hb dNr_init_15 (by decide) ?_
    refine lv_icmp_ge (tgt := 38) hx hb dNr_init_16 (by decide) (fun c_16' => ?_) (fun c_16' => ?_)
    · exact absurd c_16' (by decide)
    · refine lv_aload_n hx hb dNr_init_19 rfl (lv_at hl 1 rfl) ?_
      refine va_get (C := RNr) (T := TNr) (N := 10) (ci := 1) (v := .ref hp) hx hb hg inNr hown hK hP 0 rfl rfl 0 (by decide) (hg _ f_Nr_11) (fun _ h9 => h9) rfl dNr_init_20 ?_
      refine lv_iload_n hx hb dNr_init_23 rfl (lv_at hl 0 rfl) ?_
      refine va_new (C := RPt) (T := TPt) (N := 4) (ci := 0) (fs := [.int 0, .int 0, .int 0, .int 0]) hx hb hg inPt tyPt tyPt_ok hown (hg _ kl_Nr_9) (hg _ kn_Pt) (hg _ z_Pt) hK hP hD hS hA rfl (fun j hj => by rcases (show j = 0 ∨ j = 1 ∨ j = 2 ∨ j = 3 by omega) with rfl | rfl | rfl | rfl <;> rfl) (by decide) (by decide) dNr_init_24 (fun p1 H hP hD hS => ?_)
      have hP : va_P D gC [(h0, .inr (1, [.ref hp, .null, .null, .null, .int 0, .int 0, .int 0, .int 0, .int 0, .int 0])), (hp, .inl (cP, 4, .inr (.inr (.inr (.inr (va_up (fun _ => none) 0 (some p0))))))), (p0, .inr (0, [.int 0, .int 0, .int 0, .int 0])), (p1, .inr (0, [.int 0, .int 0, .int 0, .int 0]))] H := hP
      have hD : va_D A [(h0, .inr (1, [.ref hp, .null, .null, .null, .int 0, .int 0, .int 0, .int 0, .int 0, .int 0])), (hp, .inl (cP, 4, .inr (.inr (.inr (.inr (va_up (fun _ => none) 0 (some p0))))))), (p0, .inr (0, [.int 0, .int 0, .int 0, .int 0])), (p1, .inr (0, [.int 0, .int 0, .int 0, .int 0]))] := hD
      refine W.widen (k := 3) (n := 12) (by decide) (by decide) ?_
      refine lv_dup hx hb dNr_init_27 rfl ?_
      have hFc := va_free (wc := ptW p1 (0, 0, 0, 0)) hD hS hA [3] rfl
      have hPc : va_P D gC (ptW p1 (0, 0, 0, 0)) H := hP.sub [3] rfl
      have hDc : va_D A (ptW p1 (0, 0, 0, 0)) := hD.sub [3] rfl rfl
      refine va_callv (va_runIN (host := "NurseryRow") (As := []) (rest := [.ref p1, .int 1, .ref hp]) ⟨hx, hb, hml, hown, hts⟩ (qPt_init l D _ p1 (0, 0, 0, 0) H.size) ⟨va_cnB 0 hts (fun w h => by rcases List.mem_cons.mp h with h | h; rw [h]; exact gm_self _ k_Pt_init; exact gm_self _ h) rfl rfl rfl hNw (hg _ z_Pt) n_Pt_init.2 ⟨by decide, by decide⟩, rfl, hg _ ki_Pt_init⟩ ⟨gx_blind, gx_pre hPc hK hDc⟩ rfl rfl hl.1 rfl (lv_room (Nat.le_of_ble_eq_true rfl)) dNr_init_28 ⟨by decide, by decide⟩) hS (fun q _ h => hFc q h) hFc (fun u t H1 locs ht hvm hw hB hz1 hk1 hS => ?_)
      obtain ⟨hP1, hK1, hD1⟩ := hB
      subst hw
      rw [ht] at hP1
      obtain ⟨hP, hD⟩ := va_join (wr := [(h0, .inr (1, [.ref hp, .null, .null, .null, .int 0, .int 0, .int 0, .int 0, .int 0, .int 0])), (hp, .inl (cP, 4, .inr (.inr (.inr (.inr (va_up (fun _ => none) 0 (some p0))))))), (p0, .inr (0, [.int 0, .int 0, .int 0, .int 0]))]) (w1 := ptW p1 (0, 0, 0, 0)) hP hD [3] [0, 1, 2] rfl rfl (by decide) (by decide) hk1 hFc hP1 hD1
      generalize H1 = H at hP hS ⊢
      have hP : va_P D gC [(h0, .inr (1, [.ref hp, .null, .null, .null, .int 0, .int 0, .int 0, .int 0, .int 0, .int 0])), (hp, .inl (cP, 4, .inr (.inr (.inr (.inr (va_up (fun _ => none) 0 (some p0))))))), (p0, .inr (0, [.int 0, .int 0, .int 0, .int 0])), (p1, .inr (0, [.int 0, .int 0, .int 0, .int 0]))] H := hP
      have hD : va_D A [(h0, .inr (1, [.ref hp, .null, .null, .null, .int 0, .int 0, .int 0, .int 0, .int 0, .int 0])), (hp, .inl (cP, 4, .inr (.inr (.inr (.inr (va_up (fun _ => none) 0 (some p0))))))), (p0, .inr (0, [.int 0, .int 0, .int 0, .int 0])), (p1, .inr (0, [.int 0, .int 0, .int 0, .int 0]))] := hD
      refine W.widen (k := 3) (n := 12) (by decide) (by decide) ?_
      refine va_astq hx hb hK hP hD hS 1 0 3 0 rfl rfl rfl rfl (by unfold vp_in; decide) dNr_init_31 (fun H locs hP hD hS => ?_)
      have hP : va_P D gC [(h0, .inr (1, [.ref hp, .null, .null, .null, .int 0, .int 0, .int 0, .int 0, .int 0, .int 0])), (hp, .inl (cP, 4, .inr (.inr (.inr (.inr (va_up (va_up (fun _ => none) 0 (some p0)) 1 (some p1))))))), (p0, .inr (0, [.int 0, .int 0, .int 0, .int 0])), (p1, .inr (0, [.int 0, .int 0, .int 0, .int 0]))] H := hP
      have hD : va_D A [(h0, .inr (1, [.ref hp, .null, .null, .null, .int 0, .int 0, .int 0, .int 0, .int 0, .int 0])), (hp, .inl (cP, 4, .inr (.inr (.inr (.inr (va_up (va_up (fun _ => none) 0 (some p0)) 1 (some p1))))))), (p0, .inr (0, [.int 0, .int 0, .int 0, .int 0])), (p1, .inr (0, [.int 0, .int 0, .int 0, .int 0]))] := hD
      refine lv_iinc (v := 2) (lv' := [(1, .int 2), (0, .ref h0)]) hx hb dNr_init_32 hl (k := 0) rfl (by decide) (by decide) rfl (fun ls hl => ?_)
      refine lv_goto (tgt := 14) hx hb dNr_init_35 (by decide) ?_
      refine lv_iload_n hx hb dNr_init_14 rfl (lv_at hl 0 rfl) ?_
      refine lv_iconst (v := 4) hx hb dNr_init_15 (by decide) ?_
      refine lv_icmp_ge (tgt := 38) hx hb dNr_init_16 (by decide) (fun c_16'' => ?_) (fun c_16'' => ?_)
      · exact absurd c_16'' (by decide)
      · refine lv_aload_n hx hb dNr_init_19 rfl (lv_at hl 1 rfl) ?_
        refine va_get (C := RNr) (T := TNr) (N := 10) (ci := 1) (v := .ref hp) hx hb hg inNr hown hK hP 0 rfl rfl 0 (by decide) (hg _ f_Nr_11) (fun _ h9 => h9) rfl dNr_init_20 ?_
        refine lv_iload_n hx hb dNr_init_23 rfl (lv_at hl 0 rfl) ?_
        refine va_new (C := RPt) (T := TPt) (N := 4) (ci := 0) (fs := [.int 0, .int 0, .int 0, .int 0]) hx hb hg inPt tyPt tyPt_ok hown (hg _ kl_Nr_9) (hg _ kn_Pt) (hg _ z_Pt) hK hP hD hS hA rfl (fun j hj => by rcases (show j = 0 ∨ j = 1 ∨ j = 2 ∨ j = 3 by omega) with rfl | rfl | rfl | rfl <;> rfl) (by decide) (by decide) dNr_init_24 (fun p2 H hP hD hS => ?_)
        have hP : va_P D gC [(h0, .inr (1, [.ref hp, .null, .null, .null, .int 0, .int 0, .int 0, .int 0, .int 0, .int 0])), (hp, .inl (cP, 4, .inr (.inr (.inr (.inr (va_up (va_up (fun _ => none) 0 (some p0)) 1 (some p1))))))), (p0, .inr (0, [.int 0, .int 0, .int 0, .int 0])), (p1, .inr (0, [.int 0, .int 0, .int 0, .int 0])), (p2, .inr (0, [.int 0, .int 0, .int 0, .int 0]))] H := hP
        have hD : va_D A [(h0, .inr (1, [.ref hp, .null, .null, .null, .int 0, .int 0, .int 0, .int 0, .int 0, .int 0])), (hp, .inl (cP, 4, .inr (.inr (.inr (.inr (va_up (va_up (fun _ => none) 0 (some p0)) 1 (some p1))))))), (p0, .inr (0, [.int 0, .int 0, .int 0, .int 0])), (p1, .inr (0, [.int 0, .int 0, .int 0, .int 0])), (p2, .inr (0, [.int 0, .int 0, .int 0, .int 0]))] := hD
        refine W.widen (k := 4) (n := 16) (by decide) (by decide) ?_
        refine lv_dup hx hb dNr_init_27 rfl ?_
        have hFc := va_free (wc := ptW p2 (0, 0, 0, 0)) hD hS hA [4] rfl
        have hPc : va_P D gC (ptW p2 (0, 0, 0, 0)) H := hP.sub [4] rfl
        have hDc : va_D A (ptW p2 (0, 0, 0, 0)) := hD.sub [4] rfl rfl
        refine va_callv (va_runIN (host := "NurseryRow") (As := []) (rest := [.ref p2, .int 2, .ref hp]) ⟨hx, hb, hml, hown, hts⟩ (qPt_init l D _ p2 (0, 0, 0, 0) H.size) ⟨va_cnB 0 hts (fun w h => by rcases List.mem_cons.mp h with h | h; rw [h]; exact gm_self _ k_Pt_init; exact gm_self _ h) rfl rfl rfl hNw (hg _ z_Pt) n_Pt_init.2 ⟨by decide, by decide⟩, rfl, hg _ ki_Pt_init⟩ ⟨gx_blind, gx_pre hPc hK hDc⟩ rfl rfl hl.1 rfl (lv_room (Nat.le_of_ble_eq_true rfl)) dNr_init_28 ⟨by decide, by decide⟩) hS (fun q _ h => hFc q h) hFc (fun u t H1 locs ht hvm hw hB hz1 hk1 hS => ?_)
        obtain ⟨hP1, hK1, hD1⟩ := hB
        subst hw
        rw [ht] at hP1
        obtain ⟨hP, hD⟩ := va_join (wr := [(h0, .inr (1, [.ref hp, .null, .null, .null, .int 0, .int 0, .int 0, .int 0, .int 0, .int 0])), (hp, .inl (cP, 4, .inr (.inr (.inr (.inr (va_up (va_up (fun _ => none) 0 (some p0)) 1 (some p1))))))), (p0, .inr (0, [.int 0, .int 0, .int 0, .int 0])), (p1, .inr (0, [.int 0, .int 0, .int 0, .int 0]))]) (w1 := ptW p2 (0, 0, 0, 0)) hP hD [4] [0, 1, 2, 3] rfl rfl (by decide) (by decide) hk1 hFc hP1 hD1
        generalize H1 = H at hP hS ⊢
        have hP : va_P D gC [(h0, .inr (1, [.ref hp, .null, .null, .null, .int 0, .int 0, .int 0, .int 0, .int 0, .int 0])), (hp, .inl (cP, 4, .inr (.inr (.inr (.inr (va_up (va_up (fun _ => none) 0 (some p0)) 1 (some p1))))))), (p0, .inr (0, [.int 0, .int 0, .int 0, .int 0])), (p1, .inr (0, [.int 0, .int 0, .int 0, .int 0])), (p2, .inr (0, [.int 0, .int 0, .int 0, .int 0]))] H := hP
        have hD : va_D A [(h0, .inr (1, [.ref hp, .null, .null, .null, .int 0, .int 0, .int 0, .int 0, .int 0, .int 0])), (hp, .inl (cP, 4, .inr (.inr (.inr (.inr (va_up (va_up (fun _ => none) 0 (some p0)) 1 (some p1))))))), (p0, .inr (0, [.int 0, .int 0, .int 0, .int 0])), (p1, .inr (0, [.int 0, .int 0, .int 0, .int 0])), (p2, .inr (0, [.int 0, .int 0, .int 0, .int 0]))] := hD
        refine W.widen (k := 4) (n := 16) (by decide) (by decide) ?_
        refine va_astq hx hb hK hP hD hS 1 0 4 0 rfl rfl rfl rfl (by unfold vp_in; decide) dNr_init_31 (fun H locs hP hD hS => ?_)
        have hP : va_P D gC [(h0, .inr (1, [.ref hp, .null, .null, .null, .int 0, .int 0, .int 0, .int 0, .int 0, .int 0])), (hp, .inl (cP, 4, .inr (.inr (.inr (.inr (va_up (va_up (va_up (fun _ => none) 0 (some p0)) 1 (some p1)) 2 (some p2))))))), (p0, .inr (0, [.int 0, .int 0, .int 0, .int 0])), (p1, .inr (0, [.int 0, .int 0, .int 0, .int 0])), (p2, .inr (0, [.int 0, .int 0, .int 0, .int 0]))] H := hP
        have hD : va_D A [(h0, .inr (1, [.ref hp, .null, .null, .null, .int 0, .int 0, .int 0, .int 0, .int 0, .int 0])), (hp, .inl (cP, 4, .inr (.inr (.inr (.inr (va_up (va_up (va_up (fun _ => none) 0 (some p0)) 1 (some p1)) 2 (some p2))))))), (p0, .inr (0, [.int 0, .int 0, .int 0, .int 0])), (p1, .inr (0, [.int 0, .int 0, .int 0, .int 0])), (p2, .inr (0, [.int 0, .int 0, .int 0, .int 0]))] := hD
        refine lv_iinc (v := 3) (lv' := [(1, .int 3), (0, .ref h0)]) hx hb dNr_init_32 hl (k := 0) rfl (by decide) (by decide) rfl (fun ls hl => ?_)
        refine lv_goto (tgt := 14) hx hb dNr_init_35 (by decide) ?_
        refine lv_iload_n hx hb dNr_init_14 rfl (lv_at hl 0 rfl) ?_
        refine lv_iconst (v := 4) hx hb dNr_init_15 (by decide) ?_
        refine lv_icmp_ge (tgt := 38) hx hb dNr_init_16 (by decide) (fun c_16''' => ?_) (fun c_16''' => ?_)
        · exact absurd c_16''' (by decide)
        · refine lv_aload_n hx hb dNr_init_19 rfl (lv_at hl 1 rfl) ?_
          refine va_get (C := RNr) (T := TNr) (N := 10) (ci := 1) (v := .ref hp) hx hb hg inNr hown hK hP 0 rfl rfl 0 (by decide) (hg _ f_Nr_11) (fun _ h9 => h9) rfl dNr_init_20 ?_
          refine lv_iload_n hx hb dNr_init_23 rfl (lv_at hl 0 rfl) ?_
          refine va_new (C := RPt) (T := TPt) (N := 4) (ci := 0) (fs := [.int 0, .int 0, .int 0, .int 0]) hx hb hg inPt tyPt tyPt_ok hown (hg _ kl_Nr_9) (hg _ kn_Pt) (hg _ z_Pt) hK hP hD hS hA rfl (fun j hj => by rcases (show j = 0 ∨ j = 1 ∨ j = 2 ∨ j = 3 by omega) with rfl | rfl | rfl | rfl <;> rfl) (by decide) (by decide) dNr_init_24 (fun p3 H hP hD hS => ?_)
          have hP : va_P D gC [(h0, .inr (1, [.ref hp, .null, .null, .null, .int 0, .int 0, .int 0, .int 0, .int 0, .int 0])), (hp, .inl (cP, 4, .inr (.inr (.inr (.inr (va_up (va_up (va_up (fun _ => none) 0 (some p0)) 1 (some p1)) 2 (some p2))))))), (p0, .inr (0, [.int 0, .int 0, .int 0, .int 0])), (p1, .inr (0, [.int 0, .int 0, .int 0, .int 0])), (p2, .inr (0, [.int 0, .int 0, .int 0, .int 0])), (p3, .inr (0, [.int 0, .int 0, .int 0, .int 0]))] H := hP
          have hD : va_D A [(h0, .inr (1, [.ref hp, .null, .null, .null, .int 0, .int 0, .int 0, .int 0, .int 0, .int 0])), (hp, .inl (cP, 4, .inr (.inr (.inr (.inr (va_up (va_up (va_up (fun _ => none) 0 (some p0)) 1 (some p1)) 2 (some p2))))))), (p0, .inr (0, [.int 0, .int 0, .int 0, .int 0])), (p1, .inr (0, [.int 0, .int 0, .int 0, .int 0])), (p2, .inr (0, [.int 0, .int 0, .int 0, .int 0])), (p3, .inr (0, [.int 0, .int 0, .int 0, .int 0]))] := hD
          refine W.widen (k := 5) (n := 20) (by decide) (by decide) ?_
          refine lv_dup hx hb dNr_init_27 rfl ?_
          have hFc := va_free (wc := ptW p3 (0, 0, 0, 0)) hD hS hA [5] rfl
          have hPc : va_P D gC (ptW p3 (0, 0, 0, 0)) H := hP.sub [5] rfl
          have hDc : va_D A (ptW p3 (0, 0, 0, 0)) := hD.sub [5] rfl rfl
          refine va_callv (va_runIN (host := "NurseryRow") (As := []) (rest := [.ref p3, .int 3, .ref hp]) ⟨hx, hb, hml, hown, hts⟩ (qPt_init l D _ p3 (0, 0, 0, 0) H.size) ⟨va_cnB 0 hts (fun w h => by rcases List.mem_cons.mp h with h | h; rw [h]; exact gm_self _ k_Pt_init; exact gm_self _ h) rfl rfl rfl hNw (hg _ z_Pt) n_Pt_init.2 ⟨by decide, by decide⟩, rfl, hg _ ki_Pt_init⟩ ⟨gx_blind, gx_pre hPc hK hDc⟩ rfl rfl hl.1 rfl (lv_room (Nat.le_of_ble_eq_true rfl)) dNr_init_28 ⟨by decide, by decide⟩) hS (fun q _ h => hFc q h) hFc (fun u t H1 locs ht hvm hw hB hz1 hk1 hS => ?_)
          obtain ⟨hP1, hK1, hD1⟩ := hB
          subst hw
          rw [ht] at hP1
          obtain ⟨hP, hD⟩ := va_join (wr := [(h0, .inr (1, [.ref hp, .null, .null, .null, .int 0, .int 0, .int 0, .int 0, .int 0, .int 0])), (hp, .inl (cP, 4, .inr (.inr (.inr (.inr (va_up (va_up (va_up (fun _ => none) 0 (some p0)) 1 (some p1)) 2 (some p2))))))), (p0, .inr (0, [.int 0, .int 0, .int 0, .int 0])), (p1, .inr (0, [.int 0, .int 0, .int 0, .int 0])), (p2, .inr (0, [.int 0, .int 0, .int 0, .int 0]))]) (w1 := ptW p3 (0, 0, 0, 0)) hP hD [5] [0, 1, 2, 3, 4] rfl rfl (by decide) (by decide) hk1 hFc hP1 hD1
          generalize H1 = H at hP hS ⊢
          have hP : va_P D gC [(h0, .inr (1, [.ref hp, .null, .null, .null, .int 0, .int 0, .int 0, .int 0, .int 0, .int 0])), (hp, .inl (cP, 4, .inr (.inr (.inr (.inr (va_up (va_up (va_up (fun _ => none) 0 (some p0)) 1 (some p1)) 2 (some p2))))))), (p0, .inr (0, [.int 0, .int 0, .int 0, .int 0])), (p1, .inr (0, [.int 0, .int 0, .int 0, .int 0])), (p2, .inr (0, [.int 0, .int 0, .int 0, .int 0])), (p3, .inr (0, [.int 0, .int 0, .int 0, .int 0]))] H := hP
          have hD : va_D A [(h0, .inr (1, [.ref hp, .null, .null, .null, .int 0, .int 0, .int 0, .int 0, .int 0, .int 0])), (hp, .inl (cP, 4, .inr (.inr (.inr (.inr (va_up (va_up (va_up (fun _ => none) 0 (some p0)) 1 (some p1)) 2 (some p2))))))), (p0, .inr (0, [.int 0, .int 0, .int 0, .int 0])), (p1, .inr (0, [.int 0, .int 0, .int 0, .int 0])), (p2, .inr (0, [.int 0, .int 0, .int 0, .int 0])), (p3, .inr (0, [.int 0, .int 0, .int 0, .int 0]))] := hD
          refine W.widen (k := 5) (n := 20) (by decide) (by decide) ?_
          refine va_astq hx hb hK hP hD hS 1 0 5 0 rfl rfl rfl rfl (by unfold vp_in; decide) dNr_init_31 (fun H locs hP hD hS => ?_)
          have hP : va_P D gC [(h0, .inr (1, [.ref hp, .null, .null, .null, .int 0, .int 0, .int 0, .int 0, .int 0, .int 0])), (hp, .inl (cP, 4, .inr (.inr (.inr (.inr (va_up (va_up (va_up (va_up (fun _ => none) 0 (some p0)) 1 (some p1)) 2 (some p2)) 3 (some p3))))))), (p0, .inr (0, [.int 0, .int 0, .int 0, .int 0])), (p1, .inr (0, [.int 0, .int 0, .int 0, .int 0])), (p2, .inr (0, [.int 0, .int 0, .int 0, .int 0])), (p3, .inr (0, [.int 0, .int 0, .int 0, .int 0]))] H := hP
          have hD : va_D A [(h0, .inr (1, [.ref hp, .null, .null, .null, .int 0, .int 0, .int 0, .int 0, .int 0, .int 0])), (hp, .inl (cP, 4, .inr (.inr (.inr (.inr (va_up (va_up (va_up (va_up (fun _ => none) 0 (some p0)) 1 (some p1)) 2 (some p2)) 3 (some p3))))))), (p0, .inr (0, [.int 0, .int 0, .int 0, .int 0])), (p1, .inr (0, [.int 0, .int 0, .int 0, .int 0])), (p2, .inr (0, [.int 0, .int 0, .int 0, .int 0])), (p3, .inr (0, [.int 0, .int 0, .int 0, .int 0]))] := hD
          refine lv_iinc (v := 4) (lv' := [(1, .int 4), (0, .ref h0)]) hx hb dNr_init_32 hl (k := 0) rfl (by decide) (by decide) rfl (fun ls hl => ?_)
          refine lv_goto (tgt := 14) hx hb dNr_init_35 (by decide) ?_
          refine lv_iload_n hx hb dNr_init_14 rfl (lv_at hl 0 rfl) ?_
          refine lv_iconst (v := 4) hx hb dNr_init_15 (by decide) ?_
          refine lv_icmp_ge (tgt := 38) hx hb dNr_init_16 (by decide) (fun c_16'''' => ?_) (fun c_16'''' => ?_)
          · refine lv_aload_n hx hb dNr_init_38 rfl (lv_at hl 1 rfl) ?_
            refine lv_bipush (v := 16) hx hb dNr_init_39 (by decide) ?_
            refine va_newa (atype := .int) (ty := .int) (N' := 16) (a0 := (16, .inl (fun _ => 0))) hx hb (hg _ ka_int) rfl hK hP hD hS hA (fun _ => rfl) (by decide) (by decide) (by decide) (by decide) (by decide) dNr_init_41 (fun hr6 cI H hK hP hD hS => ?_)
            have hK : va_K D gC [(cP, .object "NurseryRow$Part"), (cI, .int)] s := hK
            have hP : va_P D gC [(h0, .inr (1, [.ref hp, .null, .null, .null, .int 0, .int 0, .int 0, .int 0, .int 0, .int 0])), (hp, .inl (cP, 4, .inr (.inr (.inr (.inr (va_up (va_up (va_up (va_up (fun _ => none) 0 (some p0)) 1 (some p1)) 2 (some p2)) 3 (some p3))))))), (p0, .inr (0, [.int 0, .int 0, .int 0, .int 0])), (p1, .inr (0, [.int 0, .int 0, .int 0, .int 0])), (p2, .inr (0, [.int 0, .int 0, .int 0, .int 0])), (p3, .inr (0, [.int 0, .int 0, .int 0, .int 0])), (hr6, .inl (cI, 16, .inl (fun _ => 0)))] H := hP
            have hD : va_D A [(h0, .inr (1, [.ref hp, .null, .null, .null, .int 0, .int 0, .int 0, .int 0, .int 0, .int 0])), (hp, .inl (cP, 4, .inr (.inr (.inr (.inr (va_up (va_up (va_up (va_up (fun _ => none) 0 (some p0)) 1 (some p1)) 2 (some p2)) 3 (some p3))))))), (p0, .inr (0, [.int 0, .int 0, .int 0, .int 0])), (p1, .inr (0, [.int 0, .int 0, .int 0, .int 0])), (p2, .inr (0, [.int 0, .int 0, .int 0, .int 0])), (p3, .inr (0, [.int 0, .int 0, .int 0, .int 0])), (hr6, .inl (cI, 16, .inl (fun _ => 0)))] := hD
            refine W.widen (k := 6) (n := 36) (by decide) (by decide) ?_
            refine va_putF (C := RNr) (T := TNr) (N := 10) (ci := 1) (v := .ref hr6) hx hb hg inNr tyNr tyNr_ok nmNr hown hK hP hD hS 0 rfl rfl 1 (by decide) (hg _ f_Nr_16) (fun _ h9 => h9) rfl hnm rfl (tyNr_ok 1 (by decide)) rfl rfl (Nat.le_of_ble_eq_true rfl) dNr_init_43 (fun H locs hP hD hS => ?_)
            have hP : va_P D gC [(h0, .inr (1, [.ref hp, .ref hr6, .null, .null, .int 0, .int 0, .int 0, .int 0, .int 0, .int 0])), (hp, .inl (cP, 4, .inr (.inr (.inr (.inr (va_up (va_up (va_up (va_up (fun _ => none) 0 (some p0)) 1 (some p1)) 2 (some p2)) 3 (some p3))))))), (p0, .inr (0, [.int 0, .int 0, .int 0, .int 0])), (p1, .inr (0, [.int 0, .int 0, .int 0, .int 0])), (p2, .inr (0, [.int 0, .int 0, .int 0, .int 0])), (p3, .inr (0, [.int 0, .int 0, .int 0, .int 0])), (hr6, .inl (cI, 16, .inl (fun _ => 0)))] H := hP
            have hD : va_D A [(h0, .inr (1, [.ref hp, .ref hr6, .null, .null, .int 0, .int 0, .int 0, .int 0, .int 0, .int 0])), (hp, .inl (cP, 4, .inr (.inr (.inr (.inr (va_up (va_up (va_up (va_up (fun _ => none) 0 (some p0)) 1 (some p1)) 2 (some p2)) 3 (some p3))))))), (p0, .inr (0, [.int 0, .int 0, .int 0, .int 0])), (p1, .inr (0, [.int 0, .int 0, .int 0, .int 0])), (p2, .inr (0, [.int 0, .int 0, .int 0, .int 0])), (p3, .inr (0, [.int 0, .int 0, .int 0, .int 0])), (hr6, .inl (cI, 16, .inl (fun _ => 0)))] := hD
            refine lv_aload_n hx hb dNr_init_46 rfl (lv_at hl 1 rfl) ?_
            refine lv_sipush (v := 512) hx hb dNr_init_47 (by decide) ?_
            refine va_newa (atype := .int) (ty := .int) (N' := 512) (a0 := (512, .inl (fun _ => 0))) hx hb (hg _ ka_int) rfl hK hP hD hS hA (fun _ => rfl) (by decide) (by decide) (by decide) (by decide) (by decide) dNr_init_50 (fun hr7 cA H hK2 hP hD hS => ?_)
            have hcA := (gx_same (i := 1) (j := 2) hK2 rfl rfl)
            rw [hcA] at hP hD
            have hP : va_P D gC [(h0, .inr (1, [.ref hp, .ref hr6, .null, .null, .int 0, .int 0, .int 0, .int 0, .int 0, .int 0])), (hp, .inl (cP, 4, .inr (.inr (.inr (.inr (va_up (va_up (va_up (va_up (fun _ => none) 0 (some p0)) 1 (some p1)) 2 (some p2)) 3 (some p3))))))), (p0, .inr (0, [.int 0, .int 0, .int 0, .int 0])), (p1, .inr (0, [.int 0, .int 0, .int 0, .int 0])), (p2, .inr (0, [.int 0, .int 0, .int 0, .int 0])), (p3, .inr (0, [.int 0, .int 0, .int 0, .int 0])), (hr6, .inl (cI, 16, .inl (fun _ => 0))), (hr7, .inl (cI, 512, .inl (fun _ => 0)))] H := hP
            have hD : va_D A [(h0, .inr (1, [.ref hp, .ref hr6, .null, .null, .int 0, .int 0, .int 0, .int 0, .int 0, .int 0])), (hp, .inl (cP, 4, .inr (.inr (.inr (.inr (va_up (va_up (va_up (va_up (fun _ => none) 0 (some p0)) 1 (some p1)) 2 (some p2)) 3 (some p3))))))), (p0, .inr (0, [.int 0, .int 0, .int 0, .int 0])), (p1, .inr (0, [.int 0, .int 0, .int 0, .int 0])), (p2, .inr (0, [.int 0, .int 0, .int 0, .int 0])), (p3, .inr (0, [.int 0, .int 0, .int 0, .int 0])), (hr6, .inl (cI, 16, .inl (fun _ => 0))), (hr7, .inl (cI, 512, .inl (fun _ => 0)))] := hD
            refine W.widen (k := 7) (n := 548) (by decide) (by decide) ?_
            refine va_putF (C := RNr) (T := TNr) (N := 10) (ci := 1) (v := .ref hr7) hx hb hg inNr tyNr tyNr_ok nmNr hown hK hP hD hS 0 rfl rfl 2 (by decide) (hg _ f_Nr_20) (fun _ h9 => h9) rfl hnm rfl (tyNr_ok 2 (by decide)) rfl rfl (Nat.le_of_ble_eq_true rfl) dNr_init_52 (fun H locs hP hD hS => ?_)
            have hP : va_P D gC [(h0, .inr (1, [.ref hp, .ref hr6, .ref hr7, .null, .int 0, .int 0, .int 0, .int 0, .int 0, .int 0])), (hp, .inl (cP, 4, .inr (.inr (.inr (.inr (va_up (va_up (va_up (va_up (fun _ => none) 0 (some p0)) 1 (some p1)) 2 (some p2)) 3 (some p3))))))), (p0, .inr (0, [.int 0, .int 0, .int 0, .int 0])), (p1, .inr (0, [.int 0, .int 0, .int 0, .int 0])), (p2, .inr (0, [.int 0, .int 0, .int 0, .int 0])), (p3, .inr (0, [.int 0, .int 0, .int 0, .int 0])), (hr6, .inl (cI, 16, .inl (fun _ => 0))), (hr7, .inl (cI, 512, .inl (fun _ => 0)))] H := hP
            have hD : va_D A [(h0, .inr (1, [.ref hp, .ref hr6, .ref hr7, .null, .int 0, .int 0, .int 0, .int 0, .int 0, .int 0])), (hp, .inl (cP, 4, .inr (.inr (.inr (.inr (va_up (va_up (va_up (va_up (fun _ => none) 0 (some p0)) 1 (some p1)) 2 (some p2)) 3 (some p3))))))), (p0, .inr (0, [.int 0, .int 0, .int 0, .int 0])), (p1, .inr (0, [.int 0, .int 0, .int 0, .int 0])), (p2, .inr (0, [.int 0, .int 0, .int 0, .int 0])), (p3, .inr (0, [.int 0, .int 0, .int 0, .int 0])), (hr6, .inl (cI, 16, .inl (fun _ => 0))), (hr7, .inl (cI, 512, .inl (fun _ => 0)))] := hD
            refine lv_aload_n hx hb dNr_init_55 rfl (lv_at hl 1 rfl) ?_
            refine lv_sipush (v := 2433) hx hb dNr_init_56 (by decide) ?_
            refine va_newa (atype := .int) (ty := .int) (N' := 2433) (a0 := (2433, .inl (fun _ => 0))) hx hb (hg _ ka_int) rfl hK hP hD hS hA (fun _ => rfl) (by decide) (by decide) (by decide) (by decide) (by decide) dNr_init_59 (fun hx8 cA H hK2 hP hD hS => ?_)
            have hcA := (gx_same (i := 1) (j := 2) hK2 rfl rfl)
            rw [hcA] at hP hD
            have hP : va_P D gC [(h0, .inr (1, [.ref hp, .ref hr6, .ref hr7, .null, .int 0, .int 0, .int 0, .int 0, .int 0, .int 0])), (hp, .inl (cP, 4, .inr (.inr (.inr (.inr (va_up (va_up (va_up (va_up (fun _ => none) 0 (some p0)) 1 (some p1)) 2 (some p2)) 3 (some p3))))))), (p0, .inr (0, [.int 0, .int 0, .int 0, .int 0])), (p1, .inr (0, [.int 0, .int 0, .int 0, .int 0])), (p2, .inr (0, [.int 0, .int 0, .int 0, .int 0])), (p3, .inr (0, [.int 0, .int 0, .int 0, .int 0])), (hr6, .inl (cI, 16, .inl (fun _ => 0))), (hr7, .inl (cI, 512, .inl (fun _ => 0))), (hx8, .inl (cI, 2433, .inl (fun _ => 0)))] H := hP
            have hD : va_D A [(h0, .inr (1, [.ref hp, .ref hr6, .ref hr7, .null, .int 0, .int 0, .int 0, .int 0, .int 0, .int 0])), (hp, .inl (cP, 4, .inr (.inr (.inr (.inr (va_up (va_up (va_up (va_up (fun _ => none) 0 (some p0)) 1 (some p1)) 2 (some p2)) 3 (some p3))))))), (p0, .inr (0, [.int 0, .int 0, .int 0, .int 0])), (p1, .inr (0, [.int 0, .int 0, .int 0, .int 0])), (p2, .inr (0, [.int 0, .int 0, .int 0, .int 0])), (p3, .inr (0, [.int 0, .int 0, .int 0, .int 0])), (hr6, .inl (cI, 16, .inl (fun _ => 0))), (hr7, .inl (cI, 512, .inl (fun _ => 0))), (hx8, .inl (cI, 2433, .inl (fun _ => 0)))] := hD
            refine W.widen (k := 8) (n := 2981) (by decide) (by decide) ?_
            refine va_put (C := RNr) (T := TNr) (N := 10) (ci := 1) (v := .ref hx8) hx hb hg inNr tyNr tyNr_ok nmNr hown hK hP hD hS 0 rfl rfl 3 (by decide) (hg _ f_Nr_23) (fun _ h9 => h9) rfl (tyNr_ok 3 (by decide)) rfl rfl (Nat.le_of_ble_eq_true rfl) dNr_init_61 (fun H locs hP hD hS => ?_)
            have hP : va_P D gC [(h0, .inr (1, [.ref hp, .ref hr6, .ref hr7, .ref hx8, .int 0, .int 0, .int 0, .int 0, .int 0, .int 0])), (hp, .inl (cP, 4, .inr (.inr (.inr (.inr (va_up (va_up (va_up (va_up (fun _ => none) 0 (some p0)) 1 (some p1)) 2 (some p2)) 3 (some p3))))))), (p0, .inr (0, [.int 0, .int 0, .int 0, .int 0])), (p1, .inr (0, [.int 0, .int 0, .int 0, .int 0])), (p2, .inr (0, [.int 0, .int 0, .int 0, .int 0])), (p3, .inr (0, [.int 0, .int 0, .int 0, .int 0])), (hr6, .inl (cI, 16, .inl (fun _ => 0))), (hr7, .inl (cI, 512, .inl (fun _ => 0))), (hx8, .inl (cI, 2433, .inl (fun _ => 0)))] H := hP
            have hD : va_D A [(h0, .inr (1, [.ref hp, .ref hr6, .ref hr7, .ref hx8, .int 0, .int 0, .int 0, .int 0, .int 0, .int 0])), (hp, .inl (cP, 4, .inr (.inr (.inr (.inr (va_up (va_up (va_up (va_up (fun _ => none) 0 (some p0)) 1 (some p1)) 2 (some p2)) 3 (some p3))))))), (p0, .inr (0, [.int 0, .int 0, .int 0, .int 0])), (p1, .inr (0, [.int 0, .int 0, .int 0, .int 0])), (p2, .inr (0, [.int 0, .int 0, .int 0, .int 0])), (p3, .inr (0, [.int 0, .int 0, .int 0, .int 0])), (hr6, .inl (cI, 16, .inl (fun _ => 0))), (hr7, .inl (cI, 512, .inl (fun _ => 0))), (hx8, .inl (cI, 2433, .inl (fun _ => 0)))] := hD
            refine lv_aload_n hx hb dNr_init_64 rfl (lv_at hl 1 rfl) ?_
            refine lv_iconst (v := 3) hx hb dNr_init_65 (by decide) ?_
            refine va_put (C := RNr) (T := TNr) (N := 10) (ci := 1) (v := .int 3) hx hb hg inNr tyNr tyNr_ok nmNr hown hK hP hD hS 0 rfl rfl 5 (by decide) (hg _ f_Nr_26) (fun _ h9 => h9) rfl (tyNr_ok 5 (by decide)) rfl rfl (Nat.le_of_ble_eq_true rfl) dNr_init_66 (fun H locs hP hD hS => ?_)
            have hP : va_P D gC [(h0, .inr (1, [.ref hp, .ref hr6, .ref hr7, .ref hx8, .int 0, .int 3, .int 0, .int 0, .int 0, .int 0])), (hp, .inl (cP, 4, .inr (.inr (.inr (.inr (va_up (va_up (va_up (va_up (fun _ => none) 0 (some p0)) 1 (some p1)) 2 (some p2)) 3 (some p3))))))), (p0, .inr (0, [.int 0, .int 0, .int 0, .int 0])), (p1, .inr (0, [.int 0, .int 0, .int 0, .int 0])), (p2, .inr (0, [.int 0, .int 0, .int 0, .int 0])), (p3, .inr (0, [.int 0, .int 0, .int 0, .int 0])), (hr6, .inl (cI, 16, .inl (fun _ => 0))), (hr7, .inl (cI, 512, .inl (fun _ => 0))), (hx8, .inl (cI, 2433, .inl (fun _ => 0)))] H := hP
            have hD : va_D A [(h0, .inr (1, [.ref hp, .ref hr6, .ref hr7, .ref hx8, .int 0, .int 3, .int 0, .int 0, .int 0, .int 0])), (hp, .inl (cP, 4, .inr (.inr (.inr (.inr (va_up (va_up (va_up (va_up (fun _ => none) 0 (some p0)) 1 (some p1)) 2 (some p2)) 3 (some p3))))))), (p0, .inr (0, [.int 0, .int 0, .int 0, .int 0])), (p1, .inr (0, [.int 0, .int 0, .int 0, .int 0])), (p2, .inr (0, [.int 0, .int 0, .int 0, .int 0])), (p3, .inr (0, [.int 0, .int 0, .int 0, .int 0])), (hr6, .inl (cI, 16, .inl (fun _ => 0))), (hr7, .inl (cI, 512, .inl (fun _ => 0))), (hx8, .inl (cI, 2433, .inl (fun _ => 0)))] := hD
            refine lv_aload_n hx hb dNr_init_69 rfl (lv_at hl 1 rfl) ?_
            refine lv_sipush (v := 256) hx hb dNr_init_70 (by decide) ?_
            refine lv_bipush (v := 64) hx hb dNr_init_73 (by decide) ?_
            refine lv_sipush (v := 2048) hx hb dNr_init_75 (by decide) ?_
            have hK : va_K D gC (nrT cI cP) s := hK.sub [1, 0] rfl
            have hP : va_P D gC (nrW cI cP (ad8 h0 hp p0 p1 p2 p3 hr6 hr7) (nrS1 hx8)) H := gx_refs (k := 1) hP hD rfl (fun j hj => by rcases (show j = 0 ∨ j = 1 ∨ j = 2 ∨ j = 3 by omega) with rfl | rfl | rfl | rfl <;> rfl)
            have hD : va_D A (nrW cI cP (ad8 h0 hp p0 p1 p2 p3 hr6 hr7) (nrS1 hx8)) := hD.set (p := 1) (e := .inl (cP, 4, .inr (.inr (.inr (.inr (fun j => some (ad8 h0 hp p0 p1 p2 p3 hr6 hr7 (2 + j)))))))) rfl
            refine gx_callv (C := "NurseryRow") (As := [.int 256, .int 64, .int 2048]) (rest := []) E (qNr_layParts l D cI cP (ad8 h0 hp p0 p1 p2 p3 hr6 hr7) (nrS1 hx8) 256 64 2048) (gx_cwV hts l_Nr_30 k_Nr_layParts ki_Nr_layParts ke_Nr_layParts z_Nr n_Nr_layParts ⟨by decide, by decide⟩) hK hP hD hS hA (va_recv hK hP (ci := 1) (q0 := 0) rfl rfl) hl.1 rfl rfl (Nat.le_of_ble_eq_true rfl) ⟨by decide, by decide⟩ dNr_init_78 (fun u H locs hq hP hD hS => ?_)
            have hq : u = nrS0 hx8 := hq
            subst hq
            exact W.vret hx hb hr (fun t ht hW => ⟨⟨(cI, cP, ad8 h0 hp p0 p1 p2 p3 hr6 hr7, nrS0 hx8), rfl, ⟨rfl, rfl⟩, by rw [ht]; exact hP, va_K.moved hW.alike hK, hD⟩, hS.F ht⟩) hS.2.2 dNr_init_81 (hlocks := hlocks)
          · exact absurd c_16'''' (by decide)
end
section
/-! THE REFERENCE: its state, its small methods. Ints: 0 thrown, 1 row, 2 limited, 3 filled, 4 oldMany, 5 copies, 6 collections, 7 toRows, 8 toOld. Arrays: 0 firsts, 1 sizes, 2 tops, 3 there, 4 areas, 5 addresses, 6 ages, 7 fields, 8 words, 9 starts, 10 data, 11 spare, 12 olds, 13 copied, 14 moved, 15 roots -/
def mSt : Type := (Nat → Int32) × (Nat → Nat → Int32)
def mSt.M (μ : mSt) : Nat → Int32 := μ.1
def mSt.A (μ : mSt) : Nat → Nat → Int32 := μ.2
def mSt.sM (μ : mSt) (k : Nat) (v : Int32) : mSt := (upd μ.M k v, μ.A)
def mSt.sA (μ : mSt) (k : Nat) (f : Nat → Int32) : mSt := (μ.M, fun j => if j = k then f else μ.A j)
def mdT (cI cZ : ClassId) : List (ClassId × FieldType) := [(cI, .int), (cZ, .boolean)]
def mdW (cI cZ : ClassId) (b : Nat → Nat) (μ : mSt) : va_W :=
  [(b 0, .inr (2, [.int (μ.M 0), .ref (b 1), .ref (b 2), .ref (b 3), .int (μ.M 1), .int (μ.M 2), .ref (b 4), .ref (b 5), .ref (b 6), .ref (b 7), .ref (b 8), .ref (b 9), .ref (b 10), .int (μ.M 3), .ref (b 11), .ref (b 12), .int (μ.M 4), .ref (b 13), .int (μ.M 5), .ref (b 14), .ref (b 15), .ref (b 16), .int (μ.M 6), .int (μ.M 7), .int (μ.M 8)])),
   (b 1, .inl (cI, 4, .inl (μ.A 0))),
   (b 2, .inl (cI, 4, .inl (μ.A 1))),
   (b 3, .inl (cI, 4, .inl (μ.A 2))),
   (b 4, .inl (cZ, 3600, .inl (μ.A 3))),
   (b 5, .inl (cI, 3600, .inl (μ.A 4))),
   (b 6, .inl (cI, 3600, .inl (μ.A 5))),
   (b 7, .inl (cI, 3600, .inl (μ.A 6))),
   (b 8, .inl (cI, 3600, .inl (μ.A 7))),
   (b 9, .inl (cI, 3600, .inl (μ.A 8))),
   (b 10, .inl (cI, 3600, .inl (μ.A 9))),
   (b 11, .inl (cI, 24000, .inl (μ.A 10))),
   (b 12, .inl (cI, 24000, .inl (μ.A 11))),
   (b 13, .inl (cI, 3600, .inl (μ.A 12))),
   (b 14, .inl (cI, 3600, .inl (μ.A 13))),
   (b 15, .inl (cZ, 3600, .inl (μ.A 14))),
   (b 16, .inl (cI, 16, .inl (μ.A 15)))]
section ZI
variable {S : Type} {D : va_G} {cl : List vw_C} {tys : List (ClassId × FieldType)}
variable {p : Program} {l : Launch} {e : Env} {R : Room} {s : State} {m : MethodId} {args : Array Value} {below : List Frame} {meth : Method} {c : Code} {H : Heap} {locs : List Loc} {cells slots : Nat}
variable {cc : ByteArray} {nL : Nat} {ws : List Cond} {y : MethodName} {A : Nat → Prop} {pc : Nat} {ls : Array Slot}
theorem gx_ziret {wf : S → va_W} {post : Int32 → S → Prop} (E : gx_E p s m args meth c cc (some .boolean) nL ws y) {r : Int32} (hn : narrow .boolean (.int r) = .int r) (hK : va_K D cl tys s) {u : S} (hP : va_P D cl (wf u) H) (hD : va_D A (wf u)) (hS : va_S A s.heap H locs) (hq : post r u) (hdg : decode cc pc = .ok (.ireturn, 1)) :
    W p l e R s m args below meth c H locs cells slots (MQ below (va_Qi post (gx_B D cl tys wf A) A) args s cells slots A) (F0 m pc ls [.int r]) :=
  W.zret (v := r) E.1 E.2.1 E.2.2.1 hn (fun t ht hW => ⟨⟨r, u, rfl, hq, by rw [ht]; exact hP, va_K.moved hW.alike hK, hD⟩, hS.F ht⟩) hS.2.2 hdg (hlocks := E.2.2.2.2.2.2.1)
end ZI
set_option maxHeartbeats 4000000 in
set_option maxRecDepth 100000 in
/-- what the last call threw -/
theorem qMd_thrown (l : Launch) (D : va_G) (cI cZ : ClassId) (b : Nat → Nat) (μ : mSt) : gx_Mp l yMd_thrown (Cond.code yMd_thrown cMd_thrown 1 (some .int) :: gW) (gR 0) D gC (mdT cI cZ) (mdW cI cZ b μ) [.ref (b 0)] (μ.M 0) := by
  refine gx_Mp.of (cc := cMd_thrown) (maxL := 1) (ret := (some .int)) (by decide) rfl (Nat.le_of_ble_eq_true rfl) ?_
  intro p e s m args below meth c ls E hK hP hD hl
  obtain ⟨hx, hb, hr, hml, hts, hown, hlocks, hnm⟩ := id E
  have hg : ∀ w ∈ gW, w.before args s = true := fun w h => hts w (List.mem_cons_of_mem _ h)
  have hown : s.vm.findClass "NurseryRowModel" = some m.cls := hown
  have hl : lv_has ls 1 [(0, .ref (b 0))] := hl
  refine lv_aload_n hx hb dMd_thrown_0 rfl (lv_at hl 0 rfl) ?_
  refine va_get (C := RMd) (T := TMd) (N := 25) (ci := 2) (v := .int (μ.M 0)) hx hb hg inMd hown hK hP 0 rfl rfl 0 (by decide) (hg _ f_Md_70) (fun _ h9 => h9) rfl dMd_thrown_1 ?_
  exact gx_pret E rfl dMd_thrown_4
set_option maxHeartbeats 4000000 in
set_option maxRecDepth 100000 in
/-- may the call go on? -/
theorem qMd_goes (l : Launch) (D : va_G) (cI cZ : ClassId) (b : Nat → Nat) (μ : mSt) (y : Int32) (z : Int32) : gx_Mi l yMd_goes (Cond.code yMd_goes cMd_goes 3 (some .boolean) :: gW) (gR 0) D gC (mdT cI cZ) (mdW cI cZ b) μ [.ref (b 0), .int y, .int z] (fun r u => r = (if (if y = 0 then 1 else if z = 0 then 2 else 0 : Int32) = 0 then 1 else 0) ∧ u = μ.sM 0 (if y = 0 then 1 else if z = 0 then 2 else 0)) := by
  refine gx_Mi.of (cc := cMd_goes) (maxL := 3) (ret := (some .boolean)) (by decide) rfl (Nat.le_of_ble_eq_true rfl) ?_
  intro p e s m args below meth c ls A E hA hK hP hD hS hl
  obtain ⟨hx, hb, hr, hml, hts, hown, hlocks, hnm⟩ := id E
  have hg : ∀ w ∈ gW, w.before args s = true := fun w h => hts w (List.mem_cons_of_mem _ h)
  have hown : s.vm.findClass "NurseryRowModel" = some m.cls := hown
  have hl : lv_has ls 3 [(0, .ref (b 0)), (1, .int y), (2, .int z)] := hl
  refine lv_aload_n hx hb dMd_goes_0 rfl (lv_at hl 0 rfl) ?_
  refine lv_iload_n hx hb dMd_goes_1 rfl (lv_at hl 1 rfl) ?_
  refine lv_if_ne (tgt := 9) hx hb dMd_goes_2 (by decide) (fun c_2 => ?_) (fun c_2 => ?_)
  · refine lv_iload_n hx hb dMd_goes_9 rfl (lv_at hl 2 rfl) ?_
    refine lv_if_ne (tgt := 17) hx hb dMd_goes_10 (by decide) (fun c_10 => ?_) (fun c_10 => ?_)
    · refine lv_iconst (v := 0) hx hb dMd_goes_17 (by decide) ?_
      refine va_put (C := RMd) (T := TMd) (N := 25) (ci := 2) (v := .int 0) hx hb hg inMd tyMd tyMd_ok nmMd hown hK hP hD hS 0 rfl rfl 0 (by decide) (hg _ f_Md_70) (fun _ h9 => h9) rfl (tyMd_ok 0 (by decide)) rfl rfl (Nat.le_of_ble_eq_true rfl) dMd_goes_18 (fun H locs hP hD hS => ?_)
      have hP : va_P D gC (mdW cI cZ b (μ.sM 0 0)) H := hP
      have hD : va_D A (mdW cI cZ b (μ.sM 0 0)) := hD
      refine lv_aload_n hx hb dMd_goes_21 rfl (lv_at hl 0 rfl) ?_
      refine va_get (C := RMd) (T := TMd) (N := 25) (ci := 2) (v := .int 0) hx hb hg inMd hown hK hP 0 rfl rfl 0 (by decide) (hg _ f_Md_70) (fun _ h9 => h9) rfl dMd_goes_22 ?_
      refine lv_if_ne (tgt := 32) hx hb dMd_goes_25 (by decide) (fun c_25 => ?_) (fun c_25 => ?_)
      · exact absurd c_25 (by decide)
      · refine lv_iconst (v := 1) hx hb dMd_goes_28 (by decide) ?_
        refine lv_goto (tgt := 33) hx hb dMd_goes_29 (by decide) ?_
        exact gx_ziret (u := μ.sM 0 0) E rfl hK hP hD hS ⟨by simp [c_2, c_10, c_25], by simp [c_2, c_10, c_25]⟩ dMd_goes_33
    · refine lv_iconst (v := 2) hx hb dMd_goes_13 (by decide) ?_
      refine lv_goto (tgt := 18) hx hb dMd_goes_14 (by decide) ?_
      refine va_put (C := RMd) (T := TMd) (N := 25) (ci := 2) (v := .int 2) hx hb hg inMd tyMd tyMd_ok nmMd hown hK hP hD hS 0 rfl rfl 0 (by decide) (hg _ f_Md_70) (fun _ h9 => h9) rfl (tyMd_ok 0 (by decide)) rfl rfl (Nat.le_of_ble_eq_true rfl) dMd_goes_18 (fun H locs hP hD hS => ?_)
      have hP : va_P D gC (mdW cI cZ b (μ.sM 0 2)) H := hP
      have hD : va_D A (mdW cI cZ b (μ.sM 0 2)) := hD
      refine lv_aload_n hx hb dMd_goes_21 rfl (lv_at hl 0 rfl) ?_
      refine va_get (C := RMd) (T := TMd) (N := 25) (ci := 2) (v := .int 2) hx hb hg inMd hown hK hP 0 rfl rfl 0 (by decide) (hg _ f_Md_70) (fun _ h9 => h9) rfl dMd_goes_22 ?_
      refine lv_if_ne (tgt := 32) hx hb dMd_goes_25 (by decide) (fun c_25 => ?_) (fun c_25 => ?_)
      · refine lv_iconst (v := 0) hx hb dMd_goes_32 (by decide) ?_
        exact gx_ziret (u := μ.sM 0 2) E rfl hK hP hD hS ⟨by simp [c_2, c_10, c_25], by simp [c_2, c_10, c_25]⟩ dMd_goes_33
      · exact absurd c_25 (by decide)
  · refine lv_iconst (v := 1) hx hb dMd_goes_5 (by decide) ?_
    refine lv_goto (tgt := 18) hx hb dMd_goes_6 (by decide) ?_
    refine va_put (C := RMd) (T := TMd) (N := 25) (ci := 2) (v := .int 1) hx hb hg inMd tyMd tyMd_ok nmMd hown hK hP hD hS 0 rfl rfl 0 (by decide) (hg _ f_Md_70) (fun _ h9 => h9) rfl (tyMd_ok 0 (by decide)) rfl rfl (Nat.le_of_ble_eq_true rfl) dMd_goes_18 (fun H locs hP hD hS => ?_)
    have hP : va_P D gC (mdW cI cZ b (μ.sM 0 1)) H := hP
    have hD : va_D A (mdW cI cZ b (μ.sM 0 1)) := hD
    refine lv_aload_n hx hb dMd_goes_21 rfl (lv_at hl 0 rfl) ?_
    refine va_get (C := RMd) (T := TMd) (N := 25) (ci := 2) (v := .int 1) hx hb hg inMd hown hK hP 0 rfl rfl 0 (by decide) (hg _ f_Md_70) (fun _ h9 => h9) rfl dMd_goes_22 ?_
    refine lv_if_ne (tgt := 32) hx hb dMd_goes_25 (by decide) (fun c_25 => ?_) (fun c_25 => ?_)
    · refine lv_iconst (v := 0) hx hb dMd_goes_32 (by decide) ?_
      exact gx_ziret (u := μ.sM 0 1) E rfl hK hP hD hS ⟨by simp [c_2, c_25], by simp [c_2, c_25]⟩ dMd_goes_33
    · exact absurd c_25 (by decide)
set_option maxHeartbeats 4000000 in
set_option maxRecDepth 100000 in
/-- an object's size -/
theorem qMd_size (l : Launch) (D : va_G) (cI cZ : ClassId) (b : Nat → Nat) (μ : mSt) (k : Nat) (hk : k < 3600) : gx_Mp l yMd_size (Cond.code yMd_size cMd_size 2 (some .int) :: gW) (gR 0) D gC (mdT cI cZ) (mdW cI cZ b μ) [.ref (b 0), .int (nI k)] (3 + μ.A 7 k + μ.A 8 k) := by
  refine gx_Mp.of (cc := cMd_size) (maxL := 2) (ret := (some .int)) (by decide) rfl (Nat.le_of_ble_eq_true rfl) ?_
  intro p e s m args below meth c ls E hK hP hD hl
  obtain ⟨hx, hb, hr, hml, hts, hown, hlocks, hnm⟩ := id E
  have hg : ∀ w ∈ gW, w.before args s = true := fun w h => hts w (List.mem_cons_of_mem _ h)
  have hown : s.vm.findClass "NurseryRowModel" = some m.cls := hown
  have hl : lv_has ls 2 [(0, .ref (b 0)), (1, .int (nI k))] := hl
  refine lv_iconst (v := 3) hx hb dMd_size_0 (by decide) ?_
  refine lv_aload_n hx hb dMd_size_1 rfl (lv_at hl 0 rfl) ?_
  refine va_get (C := RMd) (T := TMd) (N := 25) (ci := 2) (v := .ref (b 8)) hx hb hg inMd hown hK hP 0 rfl rfl 10 (by decide) (hg _ f_Md_39) (fun _ h9 => h9) rfl dMd_size_2 ?_
  refine lv_iload_n hx hb dMd_size_5 rfl (lv_at hl 1 rfl) ?_
  refine va_iald hx hb hK hP 8 0 rfl rfl (vp_in_nI (show k < 3600 from hk) (by decide)) dMd_size_6 ?_
  refine gx_top (z := (μ.A 7) k) (congrArg _ (nI_clamp (Nat.lt_trans (show k < 3600 from hk) (by decide)))) ?_
  refine lv_iadd hx hb dMd_size_7 ?_
  refine lv_aload_n hx hb dMd_size_8 rfl (lv_at hl 0 rfl) ?_
  refine va_get (C := RMd) (T := TMd) (N := 25) (ci := 2) (v := .ref (b 9)) hx hb hg inMd hown hK hP 0 rfl rfl 11 (by decide) (hg _ f_Md_42) (fun _ h9 => h9) rfl dMd_size_9 ?_
  refine lv_iload_n hx hb dMd_size_12 rfl (lv_at hl 1 rfl) ?_
  refine va_iald hx hb hK hP 9 0 rfl rfl (vp_in_nI (show k < 3600 from hk) (by decide)) dMd_size_13 ?_
  refine gx_top (z := (μ.A 8) k) (congrArg _ (nI_clamp (Nat.lt_trans (show k < 3600 from hk) (by decide)))) ?_
  refine lv_iadd hx hb dMd_size_14 ?_
  exact gx_pret E rfl dMd_size_15
set_option maxHeartbeats 4000000 in
set_option maxRecDepth 100000 in
/-- the first free number -/
theorem qMd_freeNumber (l : Launch) (D : va_G) (cI cZ : ClassId) (b : Nat → Nat) (μ : mSt) (k : Nat) (hk : k < 3600) (h0 : μ.A 3 k = 0) (h1 : ∀ j, j < k → ¬ μ.A 3 j = 0) : gx_Mp l yMd_freeNumber (Cond.code yMd_freeNumber cMd_freeNumber 2 (some .int) :: gW) (gR 0) D gC (mdT cI cZ) (mdW cI cZ b μ) [.ref (b 0)] (nI k) := by
  refine gx_Mp.of (cc := cMd_freeNumber) (maxL := 2) (ret := (some .int)) (by decide) rfl (Nat.le_of_ble_eq_true rfl) ?_
  intro p e s m args below meth c ls E hK hP hD hl
  obtain ⟨hx, hb, hr, hml, hts, hown, hlocks, hnm⟩ := id E
  have hg : ∀ w ∈ gW, w.before args s = true := fun w h => hts w (List.mem_cons_of_mem _ h)
  have hown : s.vm.findClass "NurseryRowModel" = some m.cls := hown
  have hl : lv_has ls 2 [(0, .ref (b 0))] := hl
  refine lv_iconst (v := 0) hx hb dMd_freeNumber_0 (by decide) ?_
  refine lv_istore_n (lv' := [(1, .int 0), (0, .ref (b 0))]) hx hb dMd_freeNumber_1 rfl hl (by decide) rfl (fun ls hl => ?_)
  have key : ∀ (n : Nat) (t : Nat) (ls : Array Slot), k - t < n → (t ≤ k) → lv_has ls 2 [(0, .ref (b 0)), (1, .int (nI t))] → W p l e (gR 0) s m args below meth c s.heap [] 0 0 (MQ below (QcRead (nI k)) args s 0 0 (fun _ => False)) (F0 m 2 ls []) := by
    intro n
    induction n with
    | zero => intro t ls hm; exact absurd hm (Nat.not_lt_zero _)
    | succ n ih =>
      intro t ls hm ht hl
      refine lv_aload_n hx hb dMd_freeNumber_2 rfl (lv_at hl 0 rfl) ?_
      refine va_get (C := RMd) (T := TMd) (N := 25) (ci := 2) (v := .ref (b 4)) hx hb hg inMd hown hK hP 0 rfl rfl 6 (by decide) (hg _ f_Md_26) (fun _ h9 => h9) rfl dMd_freeNumber_3 ?_
      refine lv_iload_n hx hb dMd_freeNumber_6 rfl (lv_at hl 1 rfl) ?_
      refine va_zald hx hb hK hP 4 1 rfl rfl (vp_in_nI (show t < 3600 from (by omega)) (by decide)) dMd_freeNumber_7 ?_
      refine gx_top (z := (μ.A 3) t) (congrArg _ (nI_clamp (Nat.lt_trans (show t < 3600 from (by omega)) (by decide)))) ?_
      refine lv_if_eq (tgt := 17) hx hb dMd_freeNumber_8 (by decide) (fun c_8 => ?_) (fun c_8 => ?_)
      · refine lv_iload_n hx hb dMd_freeNumber_17 rfl (lv_at hl 1 rfl) ?_
        exact gx_pret E (by rcases Nat.lt_or_eq_of_le ht with z | z; exact absurd c_8 (h1 t z); rw [z]) dMd_freeNumber_18
      · refine lv_iinc (v := nI (t + 1)) (lv' := [(1, .int (nI (t + 1))), (0, .ref (b 0))]) hx hb dMd_freeNumber_11 hl (k := 1) rfl (by rw [← nI_1]; rfl) (by decide) rfl (fun ls hl => ?_)
        refine lv_goto (tgt := 2) hx hb dMd_freeNumber_14 (by decide) ?_
        exact ih (t + 1) ls (by have : t < k := Nat.lt_of_le_of_ne ht (fun z => c_8 (by rw [z]; exact h0)); omega) (by have : t < k := Nat.lt_of_le_of_ne ht (fun z => c_8 (by rw [z]; exact h0)); omega) (lv_sub hl [1, 0] rfl)
  exact key ((k - 0) + 1) 0 ls (Nat.lt_succ_self _) (Nat.zero_le _) (lv_sub hl [1, 0] rfl)
/-- the number r of the object at x; -1 if there is none -/
def objR (μ : mSt) (x r : Int32) : Prop := (∃ k, k < 3600 ∧ ¬ μ.A 3 k = 0 ∧ μ.A 5 k = x ∧ (∀ j, j < k → μ.A 3 j = 0 ∨ ¬ μ.A 5 j = x) ∧ r = nI k) ∨ ((∀ j, j < 3600 → μ.A 3 j = 0 ∨ ¬ μ.A 5 j = x) ∧ r = -1)
theorem objR_y {μ : mSt} {x r : Int32} {t : Nat} (h : objR μ x r) (ht : t < 3600) (hb : ∀ j, j < t → μ.A 3 j = 0 ∨ ¬ μ.A 5 j = x) (c1 : ¬ μ.A 3 t = 0) (c2 : μ.A 5 t = x) : nI t = r := by
  rcases h with ⟨k, hk, h1, h2, h3, rfl⟩ | ⟨h1, rfl⟩
  · rcases Nat.lt_trichotomy t k with z | z | z
    · rcases h3 t z with w | w
      · exact absurd w c1
      · exact absurd c2 w
    · rw [z]
    · rcases hb k z with w | w
      · exact absurd w h1
      · exact absurd h2 w
  · rcases h1 t ht with w | w
    · exact absurd w c1
    · exact absurd c2 w
theorem objR_n {μ : mSt} {x r : Int32} {t : Nat} (h : objR μ x r) (hb : ∀ j, j < t → μ.A 3 j = 0 ∨ ¬ μ.A 5 j = x) (ht : 3600 ≤ t) : -1 = r := by
  rcases h with ⟨k, hk, h1, h2, h3, rfl⟩ | ⟨h1, rfl⟩
  · rcases hb k (by omega) with w | w
    · exact absurd w h1
    · exact absurd h2 w
  · rfl
set_option maxHeartbeats 4000000 in
set_option maxRecDepth 100000 in
/-- the object at x -/
theorem qMd_object (l : Launch) (D : va_G) (cI cZ : ClassId) (b : Nat → Nat) (μ : mSt) (x r : Int32) (h : objR μ x r) : gx_Mp l yMd_object (Cond.code yMd_object cMd_object 3 (some .int) :: gW) (gR 0) D gC (mdT cI cZ) (mdW cI cZ b μ) [.ref (b 0), .int x] (r) := by
  refine gx_Mp.of (cc := cMd_object) (maxL := 3) (ret := (some .int)) (by decide) rfl (Nat.le_of_ble_eq_true rfl) ?_
  intro p e s m args below meth c ls E hK hP hD hl
  obtain ⟨hx, hb, hr, hml, hts, hown, hlocks, hnm⟩ := id E
  have hg : ∀ w ∈ gW, w.before args s = true := fun w h => hts w (List.mem_cons_of_mem _ h)
  have hown : s.vm.findClass "NurseryRowModel" = some m.cls := hown
  have hl : lv_has ls 3 [(0, .ref (b 0)), (1, .int x)] := hl
  refine lv_iconst (v := 0) hx hb dMd_object_0 (by decide) ?_
  refine lv_istore_n (lv' := [(2, .int 0), (0, .ref (b 0)), (1, .int x)]) hx hb dMd_object_1 rfl hl (by decide) rfl (fun ls hl => ?_)
  have key : ∀ (n : Nat) (t : Nat) (ls : Array Slot), 3600 - t < n → (t ≤ 3600) → (∀ j, j < t → μ.A 3 j = 0 ∨ ¬ μ.A 5 j = x) → lv_has ls 3 [(0, .ref (b 0)), (1, .int x), (2, .int (nI t))] → W p l e (gR 0) s m args below meth c s.heap [] 0 0 (MQ below (QcRead (r)) args s 0 0 (fun _ => False)) (F0 m 2 ls []) := by
    intro n
    induction n with
    | zero => intro t ls hm; exact absurd hm (Nat.not_lt_zero _)
    | succ n ih =>
      intro t ls hm ht hbj hl
      refine lv_iload_n hx hb dMd_object_2 rfl (lv_at hl 2 rfl) ?_
      refine lv_sipush (v := 3600) hx hb dMd_object_3 (by decide) ?_
      refine lv_icmp_ge (tgt := 36) hx hb dMd_object_6 (by decide) (fun c_6 => ?_) (fun c_6 => ?_)
      · refine lv_iconst (v := (-1)) hx hb dMd_object_36 (by decide) ?_
        exact gx_pret E (objR_n h hbj (Nat.not_lt.mp fun z => nI_ge (b := 3600) z (by decide) c_6)) dMd_object_37
      · have hlt : t < 3600 := Nat.not_le.mp fun z => c_6 (nI_le (a := 3600) z (by omega))
        refine lv_aload_n hx hb dMd_object_9 rfl (lv_at hl 0 rfl) ?_
        refine va_get (C := RMd) (T := TMd) (N := 25) (ci := 2) (v := .ref (b 4)) hx hb hg inMd hown hK hP 0 rfl rfl 6 (by decide) (hg _ f_Md_26) (fun _ h9 => h9) rfl dMd_object_10 ?_
        refine lv_iload_n hx hb dMd_object_13 rfl (lv_at hl 2 rfl) ?_
        refine va_zald hx hb hK hP 4 1 rfl rfl (vp_in_nI (show t < 3600 from hlt) (by decide)) dMd_object_14 ?_
        refine gx_top (z := (μ.A 3) t) (congrArg _ (nI_clamp (Nat.lt_trans (show t < 3600 from hlt) (by decide)))) ?_
        refine lv_if_eq (tgt := 30) hx hb dMd_object_15 (by decide) (fun c_15 => ?_) (fun c_15 => ?_)
        · refine lv_iinc (v := nI (t + 1)) (lv' := [(2, .int (nI (t + 1))), (0, .ref (b 0)), (1, .int x)]) hx hb dMd_object_30 hl (k := 2) rfl (by rw [← nI_1]; rfl) (by decide) rfl (fun ls hl => ?_)
          refine lv_goto (tgt := 2) hx hb dMd_object_33 (by decide) ?_
          exact ih (t + 1) ls (by omega) (by omega) (lt_s hbj (Or.inl c_15)) (lv_sub hl [1, 2, 0] rfl)
        · refine lv_aload_n hx hb dMd_object_18 rfl (lv_at hl 0 rfl) ?_
          refine va_get (C := RMd) (T := TMd) (N := 25) (ci := 2) (v := .ref (b 6)) hx hb hg inMd hown hK hP 0 rfl rfl 8 (by decide) (hg _ f_Md_33) (fun _ h9 => h9) rfl dMd_object_19 ?_
          refine lv_iload_n hx hb dMd_object_22 rfl (lv_at hl 2 rfl) ?_
          refine va_iald hx hb hK hP 6 0 rfl rfl (vp_in_nI (show t < 3600 from hlt) (by decide)) dMd_object_23 ?_
          refine gx_top (z := (μ.A 5) t) (congrArg _ (nI_clamp (Nat.lt_trans (show t < 3600 from hlt) (by decide)))) ?_
          refine lv_iload_n hx hb dMd_object_24 rfl (lv_at hl 1 rfl) ?_
          refine lv_icmp_ne (tgt := 30) hx hb dMd_object_25 (by decide) (fun c_25 => ?_) (fun c_25 => ?_)
          · refine lv_iinc (v := nI (t + 1)) (lv' := [(2, .int (nI (t + 1))), (0, .ref (b 0)), (1, .int x)]) hx hb dMd_object_30 hl (k := 2) rfl (by rw [← nI_1]; rfl) (by decide) rfl (fun ls hl => ?_)
            refine lv_goto (tgt := 2) hx hb dMd_object_33 (by decide) ?_
            exact ih (t + 1) ls (by omega) (by omega) (lt_s hbj (Or.inr c_25)) (lv_sub hl [1, 2, 0] rfl)
          · refine lv_iload_n hx hb dMd_object_28 rfl (lv_at hl 2 rfl) ?_
            exact gx_pret E (objR_y h hlt hbj c_15 c_25) dMd_object_29
  exact key ((3600 - 0) + 1) 0 ls (Nat.lt_succ_self _) (Nat.zero_le _) (fun j hj => absurd hj (Nat.not_lt_zero _)) (lv_sub hl [1, 2, 0] rfl)
end
