/-! MY FRAME: contracts over one whole world; a method's start, its end, its calls -/
section GX
variable {S : Type} {D : va_G} {cl : List vw_C} {tys : List (ClassId × FieldType)}
/-- what a method finds: its arguments, and a world -/
def gx_Pc (D : va_G) (cl : List vw_C) (tys : List (ClassId × FieldType)) (w : va_W) (sz : Nat) (av : List Value) : Array Value → State → Prop :=
  va_Pc av (fun U => U.heap.size = sz ∧ va_P D cl w U.heap ∧ va_K D cl tys U ∧ va_D (fun _ => True) w)
/-- what a method leaves -/
def gx_B (D : va_G) (cl : List vw_C) (tys : List (ClassId × FieldType)) (wf : S → va_W) (A : Nat → Prop) (u : S) (t : State) : Prop :=
  va_P D cl (wf u) t.heap ∧ va_K D cl tys t ∧ va_D A (wf u)
/-- a method that answers an int and moves its world -/
def gx_Mi (l : Launch) (y : MethodName) (ws : List Cond) (rm : Room) (D : va_G) (cl : List vw_C) (tys : List (ClassId × FieldType)) (wf : S → va_W) (σ : S) (av : List Value) (post : Int32 → S → Prop) : Prop :=
  ∀ sz : Nat, Met l y ws rm (gx_Pc D cl tys (wf σ) sz av) (va_Qi post (gx_B D cl tys wf (va_A (wf σ) sz)) (va_A (wf σ) sz)) rm.cells rm.slots (va_A (wf σ) sz)
/-- one that answers nothing -/
def gx_Mv (l : Launch) (y : MethodName) (ws : List Cond) (rm : Room) (D : va_G) (cl : List vw_C) (tys : List (ClassId × FieldType)) (wf : S → va_W) (σ : S) (av : List Value) (post : S → Prop) : Prop :=
  ∀ sz : Nat, Met l y ws rm (gx_Pc D cl tys (wf σ) sz av) (va_Qv post (gx_B D cl tys wf (va_A (wf σ) sz)) (va_A (wf σ) sz)) rm.cells rm.slots (va_A (wf σ) sz)
/-- one that only reads -/
def gx_Mp (l : Launch) (y : MethodName) (ws : List Cond) (rm : Room) (D : va_G) (cl : List vw_C) (tys : List (ClassId × FieldType)) (w : va_W) (av : List Value) (r : Int32) : Prop :=
  ∀ sz : Nat, Met l y ws rm (gx_Pc D cl tys w sz av) (QcRead r) 0 0 (fun _ => False)
/-- the machine and the method's own words -/
def gx_E (p : Program) (s : State) (m : MethodId) (args : Array Value) (meth : Method) (c : Code) (cc : ByteArray) (ret : Option FieldType) (nL : Nat) (ws : List Cond) (y : MethodName) : Prop :=
  p.tables.exec = Jvm.exec ∧ c.code = cc ∧ meth.sig.returnType = ret ∧ c.maxLocals = nL ∧ (∀ w ∈ ws, w.before args s = true) ∧ s.vm.findClass y.cls = some m.cls ∧ meth.locks = false ∧ meth.name = y.name
theorem gx_blind {w : va_W} {sz : Nat} {av : List Value} : FrameBlind (gx_Pc D cl tys w sz av) := fun a U g mk q => by
  obtain ⟨q0, q1, qP, qK, qD⟩ := q
  exact ⟨q0, q1, qP, va_K.moved (u := U) (U := U.calling g mk a) (Vm.Alike.refl U.vm) qK, qD⟩
theorem gx_pre {s : State} {H : Heap} {A : Nat → Prop} {w : va_W} {av : List Value} (hP : va_P D cl w H) (hK : va_K D cl tys s) (hD : va_D A w) : ∀ U : State, U.heap = H → s.WarmedH U.vm → gx_Pc D cl tys w H.size av av.toArray U :=
  fun U hU hW => ⟨rfl, by rw [hU], by rw [hU]; exact hP, va_K.moved hW.alike hK, hD.weaken (fun _ _ _ _ => trivial)⟩
theorem gx_in {A : Nat → Prop} {w : va_W} {H0 H : Heap} {locs : List Loc} (hD : va_D A w) (hS : va_S A H0 H locs) (hA : ∀ q : Nat, H0.size ≤ q → A q) : ∀ q : Nat, va_A w H.size q → A q := by
  intro q h
  rcases h with ⟨k, e, h⟩ | h
  · exact hD.2 k (q, e) h
  · exact hA q (Nat.le_trans hS.1 h)
theorem gx_fm {α β : Type} {f : α → Option β} : ∀ {is : List α} {wc : List β}, is.map f = wc.map some → is.filterMap f = wc
  | [], [], _ => rfl
  | [], _ :: _, h => by simp at h
  | _ :: _, [], h => by simp at h
  | i :: is, a :: wc, h => by
    simp only [List.map_cons, List.cons.injEq] at h
    rw [List.filterMap_cons, h.1, gx_fm h.2]
theorem gx_Mi.of {l : Launch} {y : MethodName} {ws ws' : List Cond} {rm : Room} {wf : S → va_W} {σ : S} {av : List Value} {post : Int32 → S → Prop} {cc : ByteArray} {maxL : Nat} {ret : Option FieldType}
    (hy : plainName y.cls = true) (hw : ws = Cond.code y cc maxL ret :: ws') (hlen : (lg_sl av).length ≤ maxL)
    (body : ∀ (p : Program) (e : Env) (s : State) (m : MethodId) (args : Array Value) (below : List Frame) (meth : Method) (c : Code) (ls : Array Slot) (A : Nat → Prop),
      gx_E p s m args meth c cc ret maxL ws y → (∀ q : Nat, s.heap.size ≤ q → A q) → va_K D cl tys s → va_P D cl (wf σ) s.heap → va_D A (wf σ) → va_S A s.heap s.heap [] → lv_has ls maxL (lv_args 0 av) →
      W p l e rm s m args below meth c s.heap [] 0 0 (MQ below (va_Qi post (gx_B D cl tys wf A) A) args s rm.cells rm.slots A) (F0 m 0 ls [])) : gx_Mi l y ws rm D cl tys wf σ av post := by
  intro sz
  refine Met.ofW (cc := cc) (maxL := maxL) (ret := ret) hy hw ?_
  intro p e s m args below meth c s₁ B hml hv
  obtain ⟨rfl, hsz, hP, hK, hD0⟩ := hv
  subst hsz
  have hl := lv_entry av (n := maxL) hlen
  rw [lg_entry_eq]
  exact body p e s m _ below meth c _ _ ⟨B.exec, B.bytes, B.returns, hml, atoms_spec (ws := ws) B.pre, findClass_of_methodNamed B.named, B.notSynchronized, (name_of_methodNamed B.named B.method).1⟩ (fun q h => Or.inr h) hK hP hD0.self va_S.rf hl
theorem gx_Mv.of {l : Launch} {y : MethodName} {ws ws' : List Cond} {rm : Room} {wf : S → va_W} {σ : S} {av : List Value} {post : S → Prop} {cc : ByteArray} {maxL : Nat}
    (hy : plainName y.cls = true) (hw : ws = Cond.code y cc maxL none :: ws') (hlen : (lg_sl av).length ≤ maxL)
    (body : ∀ (p : Program) (e : Env) (s : State) (m : MethodId) (args : Array Value) (below : List Frame) (meth : Method) (c : Code) (ls : Array Slot) (A : Nat → Prop),
      gx_E p s m args meth c cc none maxL ws y → (∀ q : Nat, s.heap.size ≤ q → A q) → va_K D cl tys s → va_P D cl (wf σ) s.heap → va_D A (wf σ) → va_S A s.heap s.heap [] → lv_has ls maxL (lv_args 0 av) →
      W p l e rm s m args below meth c s.heap [] 0 0 (MQ below (va_Qv post (gx_B D cl tys wf A) A) args s rm.cells rm.slots A) (F0 m 0 ls [])) : gx_Mv l y ws rm D cl tys wf σ av post := by
  intro sz
  refine Met.ofW (cc := cc) (maxL := maxL) (ret := none) hy hw ?_
  intro p e s m args below meth c s₁ B hml hv
  obtain ⟨rfl, hsz, hP, hK, hD0⟩ := hv
  subst hsz
  have hl := lv_entry av (n := maxL) hlen
  rw [lg_entry_eq]
  exact body p e s m _ below meth c _ _ ⟨B.exec, B.bytes, B.returns, hml, atoms_spec (ws := ws) B.pre, findClass_of_methodNamed B.named, B.notSynchronized, (name_of_methodNamed B.named B.method).1⟩ (fun q h => Or.inr h) hK hP hD0.self va_S.rf hl
theorem gx_Mp.of {l : Launch} {y : MethodName} {ws ws' : List Cond} {rm : Room} {w : va_W} {av : List Value} {r : Int32} {cc : ByteArray} {maxL : Nat} {ret : Option FieldType}
    (hy : plainName y.cls = true) (hw : ws = Cond.code y cc maxL ret :: ws') (hlen : (lg_sl av).length ≤ maxL)
    (body : ∀ (p : Program) (e : Env) (s : State) (m : MethodId) (args : Array Value) (below : List Frame) (meth : Method) (c : Code) (ls : Array Slot),
      gx_E p s m args meth c cc ret maxL ws y → va_K D cl tys s → va_P D cl w s.heap → va_D (fun _ => True) w → lv_has ls maxL (lv_args 0 av) →
      W p l e rm s m args below meth c s.heap [] 0 0 (MQ below (QcRead r) args s 0 0 (fun _ => False)) (F0 m 0 ls [])) : gx_Mp l y ws rm D cl tys w av r := by
  intro sz
  refine Met.ofW (cc := cc) (maxL := maxL) (ret := ret) hy hw ?_
  intro p e s m args below meth c s₁ B hml hv
  obtain ⟨rfl, hsz, hP, hK, hD0⟩ := hv
  have hl := lv_entry av (n := maxL) hlen
  rw [lg_entry_eq]
  exact body p e s m _ below meth c _ ⟨B.exec, B.bytes, B.returns, hml, atoms_spec (ws := ws) B.pre, findClass_of_methodNamed B.named, B.notSynchronized, (name_of_methodNamed B.named B.method).1⟩ hK hP hD0 hl
section GXW
variable {p : Program} {l : Launch} {e : Env} {R : Room} {s : State} {m : MethodId} {args : Array Value} {below : List Frame} {meth : Method} {c : Code} {H : Heap} {locs : List Loc} {cells slots : Nat} {Q : State → Prop}
variable {cc : ByteArray} {nL : Nat} {ws : List Cond} {y : MethodName} {A : Nat → Prop} {pc : Nat} {ls : Array Slot} {rest : List Value}
/-- the top of the stack under another name -/
theorem gx_top {x z : Int32} (h : x = z) (k : W p l e R s m args below meth c H locs cells slots Q (F0 m pc ls (.int z :: rest))) : W p l e R s m args below meth c H locs cells slots Q (F0 m pc ls (.int x :: rest)) := h ▸ k
theorem gx_stk {st st' : List Value} (h : st = st') (k : W p l e R s m args below meth c H locs cells slots Q (F0 m pc ls st')) : W p l e R s m args below meth c H locs cells slots Q (F0 m pc ls st) := h ▸ k
theorem gx_iret {wf : S → va_W} {post : Int32 → S → Prop} (E : gx_E p s m args meth c cc (some .int) nL ws y) (hK : va_K D cl tys s) {u : S} {r : Int32} (hP : va_P D cl (wf u) H) (hD : va_D A (wf u)) (hS : va_S A s.heap H locs) (hq : post r u) (hdg : decode cc pc = .ok (.ireturn, 1)) :
    W p l e R s m args below meth c H locs cells slots (MQ below (va_Qi post (gx_B D cl tys wf A) A) args s cells slots A) (F0 m pc ls [.int r]) :=
  W.iret (v := r) E.1 E.2.1 E.2.2.1 (fun t ht hW => ⟨⟨r, u, rfl, hq, by rw [ht]; exact hP, va_K.moved hW.alike hK, hD⟩, hS.F ht⟩) hS.2.2 hdg (hlocks := E.2.2.2.2.2.2.1)
theorem gx_vret {wf : S → va_W} {post : S → Prop} (E : gx_E p s m args meth c cc none nL ws y) (hK : va_K D cl tys s) {u : S} (hP : va_P D cl (wf u) H) (hD : va_D A (wf u)) (hS : va_S A s.heap H locs) (hq : post u) (hdg : decode cc pc = .ok (.return_, 1)) :
    W p l e R s m args below meth c H locs cells slots (MQ below (va_Qv post (gx_B D cl tys wf A) A) args s cells slots A) (F0 m pc ls []) :=
  W.vret E.1 E.2.1 E.2.2.1 (fun t ht hW => ⟨⟨u, rfl, hq, by rw [ht]; exact hP, va_K.moved hW.alike hK, hD⟩, hS.F ht⟩) hS.2.2 hdg (hlocks := E.2.2.2.2.2.2.1)
/-- the end of one that only reads: an int -/
theorem gx_pret {r v : Int32} (E : gx_E p s m args meth c cc (some .int) nL ws y) (hv : v = r) (hdg : decode cc pc = .ok (.ireturn, 1)) :
    W p l e R s m args below meth c s.heap [] 0 0 (MQ below (QcRead r) args s 0 0 (fun _ => False)) (F0 m pc ls [.int v]) :=
  W.iret (v := v) E.1 E.2.1 E.2.2.1 (fun t ht _ => ⟨by rw [hv], ht⟩) (fun q h => by cases h) hdg (hlocks := E.2.2.2.2.2.2.1)
/-- a truth -/
theorem gx_zret {r v : Int32} (E : gx_E p s m args meth c cc (some .boolean) nL ws y) (hn : narrow .boolean (.int v) = .int v) (hv : v = r) (hdg : decode cc pc = .ok (.ireturn, 1)) :
    W p l e R s m args below meth c s.heap [] 0 0 (MQ below (QcRead r) args s 0 0 (fun _ => False)) (F0 m pc ls [.int v]) :=
  W.zret (v := v) E.1 E.2.1 E.2.2.1 hn (fun t ht _ => ⟨by rw [hv], ht⟩) (fun q h => by cases h) hdg (hlocks := E.2.2.2.2.2.2.1)
variable {yc : MethodName} {bytes : ByteArray} {maxL n index : Nat} {retc : Option FieldType} {wsc : List Cond} {rmc : Room} {C : String} {b : Nat} {As : List Value} {ret : Option FieldType}
/-- a call of one that only reads, on an object -/
theorem gx_callp {w : va_W} {r : Int32} (E : gx_E p s m args meth c cc ret nL ws y) (hM : gx_Mp l yc wsc rmc D cl tys w (.ref b :: As) r) (cw : CallW R s args y.cls C index yc bytes maxL retc wsc rmc 0 0 n)
    (hK : va_K D cl tys s) (hP : va_P D cl w H) (hD : va_D A w) (hrv : ∃ cell : Cell, H[b]? = some cell ∧ cell.vm.isStatics = false ∧ s.vm.findClass C = some cell.cls) (hl : ls.size = nL) {st : List Value} (hst : st = As.reverse ++ .ref b :: rest) (hn : As.length = n) (hW : (rest.map fun v => v.category).sum ≤ 8)
    (hf : cells ≤ R.cells ∧ slots ≤ R.slots) (hdg : decode cc pc = .ok (.invokevirtual index, 3)) (kk : W p l e R s m args below meth c H locs cells slots Q (F0 m (pc + 3) ls (.int r :: rest))) : W p l e R s m args below meth c H locs cells slots Q (F0 m pc ls st) :=
  W.callR (W.runV (g := F0 m pc ls st) (As := As) (rest := rest) ⟨E.1, E.2.1, E.2.2.2.1, E.2.2.2.2.2.1, E.2.2.2.2.1⟩ (hM H.size) cw ⟨gx_blind, hrv, gx_pre hP hK hD⟩ rfl hn hl hst (lv_room hW) hdg hf) kk
/-- the same, a static one -/
theorem gx_callps {w : va_W} {r : Int32} (E : gx_E p s m args meth c cc ret nL ws y) (hM : gx_Mp l yc wsc rmc D cl tys w As r) (cw : CallB R s args y.cls index yc bytes maxL retc wsc rmc 0 0 n ∧ (Cond.static yc).before args s = true)
    (hK : va_K D cl tys s) (hP : va_P D cl w H) (hD : va_D A w) (hl : ls.size = nL) {st : List Value} (hst : st = As.reverse ++ rest) (hn : As.length = n) (hW : (rest.map fun v => v.category).sum ≤ 8)
    (hf : cells ≤ R.cells ∧ slots ≤ R.slots) (hdg : decode cc pc = .ok (.invokestatic index, 3)) (kk : W p l e R s m args below meth c H locs cells slots Q (F0 m (pc + 3) ls (.int r :: rest))) : W p l e R s m args below meth c H locs cells slots Q (F0 m pc ls st) :=
  W.callR (W.runS (g := F0 m pc ls st) (As := As) (rest := rest) ⟨E.1, E.2.1, E.2.2.2.1, E.2.2.2.2.2.1, E.2.2.2.2.1⟩ (hM H.size) cw ⟨gx_blind, gx_pre hP hK hD⟩ rfl hn hl hst (lv_room hW) hdg hf) kk
/-- a call that moves the whole world and answers an int -/
theorem gx_calli {wf : S → va_W} {σ : S} {post : Int32 → S → Prop} (E : gx_E p s m args meth c cc ret nL ws y) (hM : gx_Mi l yc wsc rmc D cl tys wf σ (.ref b :: As) post) (cw : CallW R s args y.cls C index yc bytes maxL retc wsc rmc rmc.cells rmc.slots n)
    (hK : va_K D cl tys s) (hP : va_P D cl (wf σ) H) (hD : va_D A (wf σ)) (hS : va_S A s.heap H locs) (hA : ∀ q : Nat, s.heap.size ≤ q → A q) (hrv : ∃ cell : Cell, H[b]? = some cell ∧ cell.vm.isStatics = false ∧ s.vm.findClass C = some cell.cls) (hl : ls.size = nL) {st : List Value} (hst : st = As.reverse ++ .ref b :: rest) (hn : As.length = n) (hW : (rest.map fun v => v.category).sum ≤ 8)
    (hf : cells + rmc.cells ≤ R.cells ∧ slots + rmc.slots ≤ R.slots) (hdg : decode cc pc = .ok (.invokevirtual index, 3))
    (kk : ∀ (r : Int32) (u : S) (H1 : Heap) (locs1 : List Loc), post r u → va_P D cl (wf u) H1 → va_D A (wf u) → va_S A s.heap H1 locs1 → W p l e R s m args below meth c H1 locs1 (cells + rmc.cells) (slots + rmc.slots) Q (F0 m (pc + 3) ls (.int r :: rest))) : W p l e R s m args below meth c H locs cells slots Q (F0 m pc ls st) := by
  have hF := gx_in hD hS hA
  refine va_calli (va_runV (g := F0 m pc ls st) (As := As) (rest := rest) ⟨E.1, E.2.1, E.2.2.2.1, E.2.2.2.2.2.1, E.2.2.2.2.1⟩ (hM H.size) cw ⟨gx_blind, hrv, gx_pre hP hK hD⟩ rfl hn hl hst (lv_room hW) hdg hf) hS (fun q _ h => hF q h) hF (fun r u t H1 locs1 ht hvm hw hB hz1 hk1 hS1 => ?_)
  obtain ⟨hP1, hK1, hD1⟩ := hB
  rw [ht] at hP1
  exact kk r u H1 locs1 hw hP1 (hD1.weaken (fun _ q _ h => hF q.1 h)) hS1
theorem gx_callv {wf : S → va_W} {σ : S} {post : S → Prop} (E : gx_E p s m args meth c cc ret nL ws y) (hM : gx_Mv l yc wsc rmc D cl tys wf σ (.ref b :: As) post) (cw : CallW R s args y.cls C index yc bytes maxL retc wsc rmc rmc.cells rmc.slots n)
    (hK : va_K D cl tys s) (hP : va_P D cl (wf σ) H) (hD : va_D A (wf σ)) (hS : va_S A s.heap H locs) (hA : ∀ q : Nat, s.heap.size ≤ q → A q) (hrv : ∃ cell : Cell, H[b]? = some cell ∧ cell.vm.isStatics = false ∧ s.vm.findClass C = some cell.cls) (hl : ls.size = nL) {st : List Value} (hst : st = As.reverse ++ .ref b :: rest) (hn : As.length = n) (hW : (rest.map fun v => v.category).sum ≤ 8)
    (hf : cells + rmc.cells ≤ R.cells ∧ slots + rmc.slots ≤ R.slots) (hdg : decode cc pc = .ok (.invokevirtual index, 3))
    (kk : ∀ (u : S) (H1 : Heap) (locs1 : List Loc), post u → va_P D cl (wf u) H1 → va_D A (wf u) → va_S A s.heap H1 locs1 → W p l e R s m args below meth c H1 locs1 (cells + rmc.cells) (slots + rmc.slots) Q (F0 m (pc + 3) ls rest)) : W p l e R s m args below meth c H locs cells slots Q (F0 m pc ls st) := by
  have hF := gx_in hD hS hA
  refine va_callv (va_runV (g := F0 m pc ls st) (As := As) (rest := rest) ⟨E.1, E.2.1, E.2.2.2.1, E.2.2.2.2.2.1, E.2.2.2.2.1⟩ (hM H.size) cw ⟨gx_blind, hrv, gx_pre hP hK hD⟩ rfl hn hl hst (lv_room hW) hdg hf) hS (fun q _ h => hF q h) hF (fun u t H1 locs1 ht hvm hw hB hz1 hk1 hS1 => ?_)
  obtain ⟨hP1, hK1, hD1⟩ := hB
  rw [ht] at hP1
  exact kk u H1 locs1 hw hP1 (hD1.weaken (fun _ q _ h => hF q.1 h)) hS1
/-- a call of one that only reads, on a part of the world -/
theorem gx_callpS {w wc : va_W} {r : Int32} (E : gx_E p s m args meth c cc ret nL ws y) (hM : gx_Mp l yc wsc rmc D cl tys wc (.ref b :: As) r) (cw : CallW R s args y.cls C index yc bytes maxL retc wsc rmc 0 0 n)
    (isC : List Nat) (hC : isC.map (fun i => w[i]?) = wc.map some) (hnC : va_nd isC = true)
    (hK : va_K D cl tys s) (hP : va_P D cl w H) (hD : va_D A w) (hrv : ∃ cell : Cell, H[b]? = some cell ∧ cell.vm.isStatics = false ∧ s.vm.findClass C = some cell.cls) (hl : ls.size = nL) {st : List Value} (hst : st = As.reverse ++ .ref b :: rest) (hn : As.length = n) (hW : (rest.map fun v => v.category).sum ≤ 8)
    (hf : cells ≤ R.cells ∧ slots ≤ R.slots) (hdg : decode cc pc = .ok (.invokevirtual index, 3)) (kk : W p l e R s m args below meth c H locs cells slots Q (F0 m (pc + 3) ls (.int r :: rest))) : W p l e R s m args below meth c H locs cells slots Q (F0 m pc ls st) :=
  gx_callp E hM cw hK (hP.sub isC (gx_fm hC)) (hD.sub isC hnC hC) hrv hl hst hn hW hf hdg kk
/-- a call that moves a part of the world and answers an int -/
theorem gx_calliS {wf : S → va_W} {σ : S} {post : Int32 → S → Prop} {w wr : va_W} (E : gx_E p s m args meth c cc ret nL ws y) (hM : gx_Mi l yc wsc rmc D cl tys wf σ (.ref b :: As) post) (cw : CallW R s args y.cls C index yc bytes maxL retc wsc rmc rmc.cells rmc.slots n)
    (isC isR : List Nat) (hC : isC.map (fun i => w[i]?) = (wf σ).map some) (hR : isR.map (fun i => w[i]?) = wr.map some) (hnC : va_nd isC = true) (hnR : va_nd isR = true) (hdis : ∀ i ∈ isR, i ∉ isC)
    (hK : va_K D cl tys s) (hP : va_P D cl w H) (hD : va_D A w) (hS : va_S A s.heap H locs) (hA : ∀ q : Nat, s.heap.size ≤ q → A q) (hrv : ∃ cell : Cell, H[b]? = some cell ∧ cell.vm.isStatics = false ∧ s.vm.findClass C = some cell.cls) (hl : ls.size = nL) {st : List Value} (hst : st = As.reverse ++ .ref b :: rest) (hn : As.length = n) (hW : (rest.map fun v => v.category).sum ≤ 8)
    (hf : cells + rmc.cells ≤ R.cells ∧ slots + rmc.slots ≤ R.slots) (hdg : decode cc pc = .ok (.invokevirtual index, 3))
    (kk : ∀ (r : Int32) (u : S) (H1 : Heap) (locs1 : List Loc), post r u → va_P D cl (wr ++ wf u) H1 → va_D A (wr ++ wf u) → va_S A s.heap H1 locs1 → W p l e R s m args below meth c H1 locs1 (cells + rmc.cells) (slots + rmc.slots) Q (F0 m (pc + 3) ls (.int r :: rest))) : W p l e R s m args below meth c H locs cells slots Q (F0 m pc ls st) := by
  have hPc := hP.sub isC (gx_fm hC)
  have hDc := hD.sub isC hnC hC
  have hF := gx_in hDc hS hA
  refine va_calli (va_runV (g := F0 m pc ls st) (As := As) (rest := rest) ⟨E.1, E.2.1, E.2.2.2.1, E.2.2.2.2.2.1, E.2.2.2.2.1⟩ (hM H.size) cw ⟨gx_blind, hrv, gx_pre hPc hK hDc⟩ rfl hn hl hst (lv_room hW) hdg hf) hS (fun q _ h => hF q h) hF (fun r u t H1 locs1 ht hvm hw hB hz1 hk1 hS1 => ?_)
  obtain ⟨hP1, hK1, hD1⟩ := hB
  rw [ht] at hP1
  obtain ⟨hP2, hD2⟩ := va_join (wr := wr) (w1 := wf u) hP hD isC isR hC hR hnR hdis hk1 hF hP1 hD1
  exact kk r u H1 locs1 hw hP2 hD2 hS1
theorem gx_callvS {wf : S → va_W} {σ : S} {post : S → Prop} {w wr : va_W} (E : gx_E p s m args meth c cc ret nL ws y) (hM : gx_Mv l yc wsc rmc D cl tys wf σ (.ref b :: As) post) (cw : CallW R s args y.cls C index yc bytes maxL retc wsc rmc rmc.cells rmc.slots n)
    (isC isR : List Nat) (hC : isC.map (fun i => w[i]?) = (wf σ).map some) (hR : isR.map (fun i => w[i]?) = wr.map some) (hnC : va_nd isC = true) (hnR : va_nd isR = true) (hdis : ∀ i ∈ isR, i ∉ isC)
    (hK : va_K D cl tys s) (hP : va_P D cl w H) (hD : va_D A w) (hS : va_S A s.heap H locs) (hA : ∀ q : Nat, s.heap.size ≤ q → A q) (hrv : ∃ cell : Cell, H[b]? = some cell ∧ cell.vm.isStatics = false ∧ s.vm.findClass C = some cell.cls) (hl : ls.size = nL) {st : List Value} (hst : st = As.reverse ++ .ref b :: rest) (hn : As.length = n) (hW : (rest.map fun v => v.category).sum ≤ 8)
    (hf : cells + rmc.cells ≤ R.cells ∧ slots + rmc.slots ≤ R.slots) (hdg : decode cc pc = .ok (.invokevirtual index, 3))
    (kk : ∀ (u : S) (H1 : Heap) (locs1 : List Loc), post u → va_P D cl (wr ++ wf u) H1 → va_D A (wr ++ wf u) → va_S A s.heap H1 locs1 → W p l e R s m args below meth c H1 locs1 (cells + rmc.cells) (slots + rmc.slots) Q (F0 m (pc + 3) ls rest)) : W p l e R s m args below meth c H locs cells slots Q (F0 m pc ls st) := by
  have hPc := hP.sub isC (gx_fm hC)
  have hDc := hD.sub isC hnC hC
  have hF := gx_in hDc hS hA
  refine va_callv (va_runV (g := F0 m pc ls st) (As := As) (rest := rest) ⟨E.1, E.2.1, E.2.2.2.1, E.2.2.2.2.2.1, E.2.2.2.2.1⟩ (hM H.size) cw ⟨gx_blind, hrv, gx_pre hPc hK hDc⟩ rfl hn hl hst (lv_room hW) hdg hf) hS (fun q _ h => hF q h) hF (fun u t H1 locs1 ht hvm hw hB hz1 hk1 hS1 => ?_)
  obtain ⟨hP1, hK1, hD1⟩ := hB
  rw [ht] at hP1
  obtain ⟨hP2, hD2⟩ := va_join (wr := wr) (w1 := wf u) hP hD isC isR hC hR hnR hdis hk1 hF hP1 hD1
  exact kk u H1 locs1 hw hP2 hD2 hS1
end GXW
end GX
