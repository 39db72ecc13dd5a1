/-! METHODS THAT RETURN OR THROW -/
abbrev xIA : String := "java/lang/IllegalArgumentException"
abbrev xNS : String := "java/util/NoSuchElementException"
abbrev xIS : String := "java/lang/IllegalStateException"
/-- words that are not good, and stay all the same -/
def gvB : List Cond := [.declares (Bundle.initS "java/lang/RuntimeException"), .declares (Bundle.initS "java/lang/Exception"), .declares (Bundle.initS Bundle.tN), .castable xIA xIA, .castable xNS xNS, .castable xIS xIS]
/-- the class's texts -/
def gvS : List (Nat × String) := [(40, "no such sizes"), (70, "no such limit"), (72, "no such object"), (94, "no such object or field"), (103, "no such object or word"), (108, "no such root or object"), (110, "no such root"), (117, "OLD has too little room"), (145, "nothing of that kind is told"), (156, "nothing of that kind is counted")]
def gv_T (U : State) : Prop := (∀ w ∈ gvB, va_Nw w U) ∧ (∀ q ∈ gvS, ∃ sa, vk_R "NurseryRow" q.1 q.2 sa U) ∧ va_Nc xIA xNS U
theorem gv_T.warm {s U : State} (hW : s.WarmedH U.vm) (h : gv_T s) : gv_T U := by
  refine ⟨fun w hw => ?_, fun q hq => ?_, va_Nc.moved hW.alike h.2.2⟩
  · have h1 := h.1 w hw
    simp only [gvB, List.mem_cons, List.not_mem_nil, or_false] at hw
    rcases hw with rfl | rfl | rfl | rfl | rfl | rfl
    · exact va_Nw.warmD hW h1
    · exact va_Nw.warmD hW h1
    · exact va_Nw.warmD hW h1
    · exact va_Nw.warmC hW h1
    · exact va_Nw.warmC hW h1
    · exact va_Nw.warmC hW h1
  · obtain ⟨sa, h2⟩ := h.2.1 q hq
    exact ⟨sa, vk_R.warm hW h2⟩
def gv_Z (A : Nat → Prop) (U : State) (H : Heap) : Prop := vx_Zq Bundle.tN "UNASSIGNED_STACK" Bundle.steD A U H ∧ vx_Zq Bundle.tN "SUPPRESSED_SENTINEL" Bundle.listD A U H
abbrev rxIA : ByteArray := prog_8_method_2_code
abbrev rxNS : ByteArray := prog_20_method_4_code
abbrev rxIS : ByteArray := prog_9_method_2_code
abbrev atIA : List Cond := nx_at "NurseryRow" 42 xIA 7 rxIA
abbrev atNS : List Cond := nx_at "NurseryRow" 96 xNS 13 rxNS
abbrev atIS : List Cond := nx_at "NurseryRow" 119 xIS 7 rxIS
set_option maxRecDepth 100000 in
theorem gx_IA : ∀ w ∈ atIA.filter goodWord, w ∈ lw_tbl := by decide +kernel
set_option maxRecDepth 100000 in
theorem gy_IA : ∀ w ∈ atIA.filter (fun w => !goodWord w), w ∈ gvB := by decide +kernel
set_option maxRecDepth 100000 in
theorem gx_NS : ∀ w ∈ atNS.filter goodWord, w ∈ lw_tbl := by decide +kernel
set_option maxRecDepth 100000 in
theorem gy_NS : ∀ w ∈ atNS.filter (fun w => !goodWord w), w ∈ gvB := by decide +kernel
set_option maxRecDepth 100000 in
theorem gx_IS : ∀ w ∈ atIS.filter goodWord, w ∈ lw_tbl := by decide +kernel
set_option maxRecDepth 100000 in
theorem gy_IS : ∀ w ∈ atIS.filter (fun w => !goodWord w), w ∈ gvB := by decide +kernel
theorem gv_at {L : List Cond} {args : Array Value} {s : State} (h1 : ∀ w ∈ L.filter goodWord, w ∈ lw_tbl) (h2 : ∀ w ∈ L.filter (fun w => !goodWord w), w ∈ gvB) (hg : ∀ w ∈ gW, w.before args s = true) (hT : gv_T s) : ∀ w ∈ L, w.before args s = true := by
  refine vx_hat (B := gvB) (fun w hw => hg w (List.mem_filter.mpr ⟨h1 w hw, (List.mem_filter.mp hw).2⟩)) h2 (fun w hw => ?_)
  have h3 := hT.1 w hw
  refine va_Nw.use ?_ h3
  simp only [gvB, List.mem_cons, List.not_mem_nil, or_false] at hw
  rcases hw with rfl | rfl | rfl | rfl | rfl | rfl <;> rfl
theorem go_IA : ∀ w ∈ Cond.classLink "NurseryRow" 38 xIA :: Cond.initialized xIA :: atIA, vx_ot w = true := by decide +kernel
theorem go_NS : ∀ w ∈ Cond.classLink "NurseryRow" 92 xNS :: Cond.initialized xNS :: atNS, vx_ot w = true := by decide +kernel
theorem go_IS : ∀ w ∈ Cond.classLink "NurseryRow" 115 xIS :: Cond.initialized xIS :: atIS, vx_ot w = true := by decide +kernel
section GV
variable {S : Type} {D : va_G} {cl : List vw_C} {tys : List (ClassId × FieldType)}
def gv_Pc (D : va_G) (cl : List vw_C) (tys : List (ClassId × FieldType)) (w : va_W) (sz : Nat) (av : List Value) : Array Value → State → Prop :=
  fun a U => gx_Pc D cl tys w sz av a U ∧ gv_Z (va_A w sz) U U.heap ∧ gv_T U
/-- thrown: the world as it was -/
def gv_X (D : va_G) (cl : List vw_C) (tys : List (ClassId × FieldType)) (w : va_W) (A : Nat → Prop) (thr : String → Prop) : String → State → State → Prop := fun E st t =>
  thr E ∧ va_P D cl w t.heap ∧ va_K D cl tys t ∧ va_D A w ∧ va_F A st t
/-- a method that answers an int and moves its world, or throws -/
def gv_M (l : Launch) (y : MethodName) (ws : List Cond) (rm : Room) (D : va_G) (cl : List vw_C) (tys : List (ClassId × FieldType)) (wf : S → va_W) (σ : S) (av : List Value) (post : Int32 → S → Prop) (thr : String → Prop) : Prop :=
  ∀ sz : Nat, vx_Met l y ws rm (gv_Pc D cl tys (wf σ) sz av) (va_Qi post (gx_B D cl tys wf (va_A (wf σ) sz)) (va_A (wf σ) sz)) (gv_X D cl tys (wf σ) (va_A (wf σ) sz) thr) rm.cells rm.slots (va_A (wf σ) sz)
theorem gv_blind {w : va_W} {sz : Nat} {av : List Value} : FrameBlind (gv_Pc D cl tys w sz av) := fun a U g mk q =>
  ⟨gx_blind a U g mk q.1, ⟨vx_Zq.moved (u := U) (U := U.calling g mk a) (Vm.Alike.refl U.vm) q.2.1.1, vx_Zq.moved (u := U) (U := U.calling g mk a) (Vm.Alike.refl U.vm) q.2.1.2⟩, gv_T.warm (s := U) (U := U.calling g mk a) (State.WarmedH.refl U) q.2.2⟩
theorem gv_M.of {l : Launch} {y : MethodName} {x : Cond} {ws' : List Cond} {rm : Room} {wf : S → va_W} {σ : S} {av : List Value} {post : Int32 → S → Prop} {thr : String → Prop} {cc : ByteArray} {maxL : Nat} {ret : Option FieldType}
    (hy : plainName y.cls = true) (hw : x :: ws' = Cond.code y cc maxL ret :: ws') (hlen : (lg_sl av).length ≤ maxL)
    (body : ∀ (p : Program) (e : Env) (s : State) (m : MethodId) (args : Array Value) (below : List Frame) (meth : Method) (c : Code) (ls : Array Slot) (A : Nat → Prop),
      gx_E p s m args meth c cc ret maxL (x :: ws') y → (∀ x ∈ c.exceptionTable.toList, False) → gv_Z A s s.heap → gv_T s → (∀ q : Nat, s.heap.size ≤ q → A q) → va_K D cl tys s → va_P D cl (wf σ) s.heap → va_D A (wf σ) → va_S A s.heap s.heap [] → lv_has ls maxL (lv_args 0 av) →
      W p l e rm s m args below meth c s.heap [] 0 0 (vx_MQ below (va_Qi post (gx_B D cl tys wf A) A) (gv_X D cl tys (wf σ) A thr) args s rm.cells rm.slots A) (F0 m 0 ls [])) : gv_M l y (x :: ws') rm D cl tys wf σ av post thr := by
  intro sz
  refine vx_ofW (cc := cc) (maxL := maxL) (ret := ret) hy hw ?_
  intro p e s m args below meth c s₁ B hml hex hv
  obtain ⟨⟨rfl, hsz, hP, hK, hD0⟩, hZ, hT⟩ := hv
  subst hsz
  have hl := lv_entry av (n := maxL) hlen
  rw [lg_entry_eq]
  exact body p e s m _ below meth c _ _ ⟨B.exec, B.bytes, B.returns, hml, atoms_spec (ws := x :: ws') B.pre, findClass_of_methodNamed B.named, B.notSynchronized, (name_of_methodNamed B.named B.method).1⟩ hex hZ hT (fun q h => Or.inr h) hK hP hD0.self va_S.rf hl
variable {p : Program} {l : Launch} {e : Env} {R : Room} {s : State} {m : MethodId} {args : Array Value} {below : List Frame} {meth : Method} {c : Code} {H : Heap} {locs : List Loc} {cells slots : Nat} {Q : State → Prop}
variable {cc : ByteArray} {nL : Nat} {x : Cond} {y : MethodName} {A : Nat → Prop} {pc : Nat} {ls : Array Slot} {ret : Option FieldType}
/-- 'throw new X("..")' out of the class -/
theorem gv_throw {Qc : Array Value → State → Outcome → State → Prop} {w : va_W} {thr : String → Prop} {X tx : String} {ik is ic mc ms : Nat} (E : gx_E p s m args meth c cc ret nL (x :: gW) y) (hy : y.cls = "NurseryRow") (hfl : l.stackTraces = false) (hex : ∀ x ∈ c.exceptionTable.toList, False) (hZ : gv_Z A s s.heap) (hT : gv_T s) (hK : va_K D cl tys s) (hP : va_P D cl w H) (hD : va_D A w) (hS : va_S A s.heap H locs) (hl : ls.size = nL)
    {ix : Nat} {rx : ByteArray} (x0 : decode rx 0 = .ok (.aload_n 0, 1)) (x1 : decode rx 1 = .ok (.aload_n 1, 1)) (x2 : decode rx 2 = .ok (.invokespecial ix, 3)) (x5 : decode rx 5 = .ok (.return_, 1))
    (hX : Bundle.fit X = true) (hk : Cond.classLink "NurseryRow" ik X ∈ gW) (hini : Cond.initialized X ∈ gW) (hstr : (is, tx) ∈ gvS)
    (h1 : ∀ w ∈ (nx_at "NurseryRow" ic X ix rx).filter goodWord, w ∈ lw_tbl) (h2 : ∀ w ∈ (nx_at "NurseryRow" ic X ix rx).filter (fun w => !goodWord w), w ∈ gvB) (h3 : ∀ w ∈ Cond.classLink "NurseryRow" ik X :: Cond.initialized X :: nx_at "NurseryRow" ic X ix rx, vx_ot w = true)
    (ht : thr X) (hrf : 6 ≤ R.frames) (hrl : 90 ≤ R.locals) (hrc : cells + 1 ≤ R.cells) (hrs : slots + 6 ≤ R.slots) (hmc : cells + 1 ≤ mc) (hms : slots + 6 ≤ ms)
    (d0 : decode cc pc = .ok (.new ik, 3)) (d3 : decode cc (pc + 3) = .ok (.dup, 1)) (d4 : decode cc (pc + 4) = .ok (.ldc is, 2)) (d6 : decode cc (pc + 6) = .ok (.invokespecial ic, 3)) (d9 : decode cc (pc + 9) = .ok (.athrow, 1)) :
    W p l e R s m args below meth c H locs cells slots (vx_MQ below Qc (gv_X D cl tys w A thr) args s mc ms A) (F0 m pc ls []) := by
  obtain ⟨hx, hb, -, hml, hts, hown, hlocks, -⟩ := id E
  rw [hy] at hown
  have hg : ∀ w ∈ gW, w.before args s = true := fun w h => hts w (List.mem_cons_of_mem _ h)
  obtain ⟨sa, hsa⟩ := hT.2.1 _ hstr
  refine nx_throw (A := A) hx hb hfl x0 x1 x2 x5 hown hX (hg _ hk) (hg _ hini) hsa (gv_at h1 h2 hg hT) h3 hZ.1 hZ.2 hS (hl.trans hml.symm) d0 d3 d4 d6 d9 (fun x h => (hex x h).elim) (by omega) (by simp only [List.map, List.sum_nil]; omega) hrc hrs hlocks ?_ hS.2.2 hmc hms
  intro t hvm hz hk
  refine ⟨ht, hP.kept (fun k q hq => hk q.1 (hP k q hq).lt), va_K.moved hvm hK, hD, Nat.le_trans hS.1 hz, fun q h1 h2 => ?_⟩
  rw [hk q (Nat.lt_of_lt_of_le h1 hS.1)]
  exact hS.2.1 q h1 h2
end GV
