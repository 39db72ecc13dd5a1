/-! THE LAW'S FRAME: a call that may throw, caught; contracts of methods with a table -/
theorem vx_Met.monoX {l : Launch} {y : MethodName} {ws : List Cond} {rm : Room} {Pc : Array Value → State → Prop} {Qc : Array Value → State → Outcome → State → Prop} {XC XC' : String → State → State → Prop} {mc ms : Nat} {free : Addr → Prop} (h : vx_Met l y ws rm Pc Qc XC mc ms free) (hx : ∀ E st t, XC E st t → XC' E st t) : vx_Met l y ws rm Pc Qc XC' mc ms free := by
  intro p e a1 a2 a3 s m args below a4 a5 hP a6
  obtain ⟨n, o, b1, b2, b3, hq⟩ := h p e a1 a2 a3 s m args below a4 a5 hP a6
  refine ⟨n, o, b1, b2, b3, ?_⟩
  rcases hq with hq | ⟨q, e1, E, ce, L, h1, h2⟩
  · exact Or.inl hq
  · exact Or.inr ⟨q, e1, E, ce, L, hx _ _ _ h1, h2⟩
section GZ
variable {S : Type} {D : va_G} {cl : List vw_C} {tys : List (ClassId × FieldType)}
/-- a method that answers an int and moves its world; what it calls may throw -/
def gz_M (l : Launch) (y : MethodName) (ws : List Cond) (rm : Room) (D : va_G) (cl : List vw_C) (tys : List (ClassId × FieldType)) (wf : S → va_W) (σ : S) (av : List Value) (post : Int32 → S → Prop) : Prop :=
  ∀ sz : Nat, Met l y ws rm (gv_Pc D cl tys (wf σ) sz av) (va_Qi post (gx_B D cl tys wf (va_A (wf σ) sz)) (va_A (wf σ) sz)) rm.cells rm.slots (va_A (wf σ) sz)
theorem gz_M.of {l : Launch} {y : MethodName} {x : Cond} {ws' : List Cond} {rm : Room} {wf : S → va_W} {σ : S} {av : List Value} {post : Int32 → S → Prop} {cc : ByteArray} {maxL : Nat} {ret : Option FieldType} {hh : List (Nat × Nat × Nat × Nat)}
    (hy : plainName y.cls = true) (hw : x :: ws' = Cond.codeWith y cc maxL ret hh :: ws') (hlen : (lg_sl av).length ≤ maxL)
    (body : ∀ (p : Program) (e : Env) (s : State) (m : MethodId) (args : Array Value) (below : List Frame) (meth : Method) (c : Code) (ls : Array Slot) (A : Nat → Prop),
      gx_E p s m args meth c cc ret maxL (x :: ws') y → c.exceptionTable.toList = tableOf hh → gv_Z A s s.heap → gv_T s → (∀ q : Nat, s.heap.size ≤ q → A q) → va_K D cl tys s → va_P D cl (wf σ) s.heap → va_D A (wf σ) → va_S A s.heap s.heap [] → lv_has ls maxL (lv_args 0 av) →
      W p l e rm s m args below meth c s.heap [] 0 0 (MQ below (va_Qi post (gx_B D cl tys wf A) A) args s rm.cells rm.slots A) (F0 m 0 ls [])) : gz_M l y (x :: ws') rm D cl tys wf σ av post := by
  intro sz
  refine va_MetW (cc := cc) (maxL := maxL) (ret := ret) (hh := hh) hy hw ?_
  intro p e s m args below meth c s₁ B hml hv
  obtain ⟨⟨rfl, hsz, hP, hK, hD0⟩, hZ, hT⟩ := hv
  subst hsz
  have hl := lv_entry av (n := maxL) hlen
  rw [lg_entry_eq]
  have hts := atoms_spec (ws := x :: ws') B.pre
  exact body p e s m _ below meth c _ _ ⟨B.exec, B.bytes, B.returns, hml, hts, findClass_of_methodNamed B.named, B.notSynchronized, (name_of_methodNamed B.named B.method).1⟩ (vx_table (x := y) B (hts _ (by rw [hw]; exact List.mem_cons_self))) hZ hT (fun q h => Or.inr h) hK hP hD0.self va_S.rf hl
variable {p : Program} {l : Launch} {e : Env} {R : Room} {s : State} {m : MethodId} {args : Array Value} {below : List Frame} {meth : Method} {c : Code} {H : Heap} {locs : List Loc} {cells slots : Nat} {Q : State → Prop}
variable {cc : ByteArray} {nL : Nat} {ws : List Cond} {y : MethodName} {A : Nat → Prop} {pc : Nat} {ls : Array Slot} {rest : List Value}
variable {yc : MethodName} {bytes : ByteArray} {maxL n index : Nat} {retc : Option FieldType} {wsc : List Cond} {rmc : Room} {C : String} {b : Nat} {As : List Value} {ret : Option FieldType}
theorem gv_pre {w : va_W} {av : List Value} (hZ : gv_Z A s s.heap) (hT : gv_T s) (hK : va_K D cl tys s) (hP : va_P D cl w H) (hD : va_D A w) (hS : va_S A s.heap H locs) (hF : ∀ q, va_A w H.size q → A q) : ∀ U : State, U.heap = H → s.WarmedH U.vm → gv_Pc D cl tys w H.size av av.toArray U :=
  fun U hU hW => ⟨gx_pre hP hK hD U hU hW, ⟨by rw [hU]; exact vx_Zq.moved hW.alike ((hZ.1.kept hS.2.1).narrow hF), by rw [hU]; exact vx_Zq.moved hW.alike ((hZ.2.kept hS.2.1).narrow hF)⟩, gv_T.warm hW hT⟩
/-- a call on an object, on a part of the world, that returns or throws -/
theorem gv_callS {wf : S → va_W} {σ : S} {post : Int32 → S → Prop} {thr : String → Prop} {w wr : va_W} (E : gx_E p s m args meth c cc ret nL ws y) (hM : gv_M l yc wsc rmc D cl tys wf σ (.ref b :: As) post thr) (cw : CallW R s args y.cls C index yc bytes maxL retc wsc rmc rmc.cells rmc.slots n)
    (isC isR : List Nat) (hC : isC.map (fun i => w[i]?) = (wf σ).map some) (hR : isR.map (fun i => w[i]?) = wr.map some) (hnC : va_nd isC = true) (hnR : va_nd isR = true) (hdis : ∀ i ∈ isR, i ∉ isC)
    (hK : va_K D cl tys s) (hZ : gv_Z A s s.heap) (hT : gv_T s) (hP : va_P D cl w H) (hD : va_D A w) (hS : va_S A s.heap H locs) (hA : ∀ q : Nat, s.heap.size ≤ q → A q) (hrv : ∃ cell : Cell, H[b]? = some cell ∧ cell.vm.isStatics = false ∧ s.vm.findClass C = some cell.cls) (hl : ls.size = nL) {st : List Value} (hst : st = As.reverse ++ .ref b :: rest) (hn : As.length = n) (hW : (rest.map fun v => v.category).sum ≤ 8)
    (hf : cells + rmc.cells ≤ R.cells ∧ slots + rmc.slots ≤ R.slots) (hdg : decode cc pc = .ok (.invokevirtual index, 3))
    (kx : ∀ (X : String) (ce : Cell) (q9 : Addr) (H1 : Heap) (locs1 : List Loc), thr X → va_P D cl (wr ++ wf σ) H1 → va_D A (wr ++ wf σ) → va_S A s.heap H1 locs1 → H1[q9]? = some ce → ce.vm = .none → s.vm.findClass X = some ce.cls → vx_W p l e R s m args below meth c H1 locs1 (cells + rmc.cells) (slots + rmc.slots) Q (F0 m pc ls rest) q9)
    (kk : ∀ (r : Int32) (u : S) (H1 : Heap) (locs1 : List Loc), post r u → va_P D cl (wr ++ wf u) H1 → va_D A (wr ++ wf u) → va_S A s.heap H1 locs1 → W p l e R s m args below meth c H1 locs1 (cells + rmc.cells) (slots + rmc.slots) Q (F0 m (pc + 3) ls (.int r :: rest))) : W p l e R s m args below meth c H locs cells slots Q (F0 m pc ls st) := by
  have hPc := hP.sub isC (gx_fm hC)
  have hDc := hD.sub isC hnC hC
  have hF := gx_in hDc hS hA
  have hM2 : vx_Met l yc wsc rmc (gv_Pc D cl tys (wf σ) H.size (.ref b :: As)) (va_Qi post (gx_B D cl tys wf (va_A (wf σ) H.size)) (va_A (wf σ) H.size)) (vx_X (fun _ : Unit => True) (fun X _ t => thr X ∧ va_P D cl (wf σ) t.heap ∧ va_D (va_A (wf σ) H.size) (wf σ)) (va_A (wf σ) H.size)) rmc.cells rmc.slots (va_A (wf σ) H.size) :=
    (hM H.size).monoX (fun X st t h => ⟨(), trivial, ⟨h.1, h.2.1, h.2.2.2.1⟩, h.2.2.2.2⟩)
  refine vx_calli (vx_runV (g := F0 m pc ls st) (As := As) (rest := rest) ⟨E.1, E.2.1, E.2.2.2.1, E.2.2.2.2.2.1, E.2.2.2.2.1⟩ hM2 cw ⟨gv_blind, hrv, gv_pre hZ hT hK hPc hDc hS hF⟩ rfl hn hl hst (lv_room hW) hdg hf) hS (fun q _ h => hF q h) hF (fun q _ h => hF q h) (fun X ce q9 u t H1 locs1 ht hvm _ hB hz1 hk1 hS1 h1 h2 h3 => ?_) (fun r u t H1 locs1 ht hvm hw hB hz1 hk1 hS1 => ?_)
  · obtain ⟨hX, hP1, hD1⟩ := hB
    rw [ht] at hP1
    obtain ⟨hP2, hD2⟩ := va_join (wr := wr) (w1 := wf σ) hP hD isC isR hC hR hnR hdis hk1 hF hP1 hD1
    exact kx X ce q9 H1 locs1 hX hP2 hD2 hS1 h1 h2 h3
  · obtain ⟨hP1, hK1, hD1⟩ := hB
    rw [ht] at hP1
    obtain ⟨hP2, hD2⟩ := va_join (wr := wr) (w1 := wf u) hP hD isC isR hC hR hnR hdis hk1 hF hP1 hD1
    exact kk r u H1 locs1 hw hP2 hD2 hS1
/-- a static call of a method with a table, on a part of the world -/
theorem gz_calls {wf : S → va_W} {σ : S} {post : Int32 → S → Prop} {w wr : va_W} {hh : List (Nat × Nat × Nat × Nat)} (E : gx_E p s m args meth c cc ret nL ws y) (hM : gz_M l yc wsc rmc D cl tys wf σ As post) (cw : vx_CSW R s args y.cls index yc bytes maxL retc hh wsc rmc rmc.cells rmc.slots n)
    (isC isR : List Nat) (hC : isC.map (fun i => w[i]?) = (wf σ).map some) (hR : isR.map (fun i => w[i]?) = wr.map some) (hnC : va_nd isC = true) (hnR : va_nd isR = true) (hdis : ∀ i ∈ isR, i ∉ isC)
    (hK : va_K D cl tys s) (hZ : gv_Z A s s.heap) (hT : gv_T s) (hP : va_P D cl w H) (hD : va_D A w) (hS : va_S A s.heap H locs) (hA : ∀ q : Nat, s.heap.size ≤ q → A q) (hl : ls.size = nL) {st : List Value} (hst : st = As.reverse ++ rest) (hn : As.length = n) (hW : (rest.map fun v => v.category).sum ≤ 8)
    (hf : cells + rmc.cells ≤ R.cells ∧ slots + rmc.slots ≤ R.slots) (hdg : decode cc pc = .ok (.invokestatic index, 3))
    (kk : ∀ (r : Int32) (u : S) (H1 : Heap) (locs1 : List Loc), post r u → va_P D cl (wr ++ wf u) H1 → va_D A (wr ++ wf u) → va_S A s.heap H1 locs1 → W p l e R s m args below meth c H1 locs1 (cells + rmc.cells) (slots + rmc.slots) Q (F0 m (pc + 3) ls (.int r :: rest))) : W p l e R s m args below meth c H locs cells slots Q (F0 m pc ls st) := by
  have hPc := hP.sub isC (gx_fm hC)
  have hDc := hD.sub isC hnC hC
  have hF := gx_in hDc hS hA
  refine va_calli (vx_runSW (g := F0 m pc ls st) (As := As) (rest := rest) ⟨E.1, E.2.1, E.2.2.2.1, E.2.2.2.2.2.1, E.2.2.2.2.1⟩ (hM H.size) cw ⟨gv_blind, gv_pre hZ hT hK hPc hDc hS hF⟩ rfl hn hl hst (lv_room hW) hdg hf) hS (fun q _ h => hF q h) hF (fun r u t H1 locs1 ht hvm hw hB hz1 hk1 hS1 => ?_)
  obtain ⟨hP1, hK1, hD1⟩ := hB
  rw [ht] at hP1
  obtain ⟨hP2, hD2⟩ := va_join (wr := wr) (w1 := wf u) hP hD isC isR hC hR hnR hdis hk1 hF hP1 hD1
  exact kk r u H1 locs1 hw hP2 hD2 hS1
theorem gx_cwSW {x : Cond} {own : String} {hh : List (Nat × Nat × Nat × Nat)} {rm : Room} (hts : ∀ w ∈ x :: gW, w.before args s = true) (hl : Cond.methodLink own index yc ∈ gW) (hc : Cond.codeWith yc bytes maxL retc hh ∈ gW) (hi : Cond.static yc ∈ gW) (hz : Cond.initialized C ∈ gW)
    (hd : yc.cls = C ∧ yc.cls ≠ "java/lang/invoke/MethodHandle" ∧ yc.cls ≠ "java/lang/invoke/VarHandle" ∧ (parseMethodDescriptor yc.desc).map (fun d => d.parameters.length) = some n) (hR : rm.frames + 1 ≤ R.frames ∧ 8 + (maxL + 11) + rm.locals ≤ R.locals) :
    vx_CSW R s args own index yc bytes maxL retc hh (.codeWith yc bytes maxL retc hh :: gW) rm rm.cells rm.slots n :=
  vx_cwSW n hts (fun w h => by
    simp only [va_wsS, List.mem_append, List.mem_cons, List.not_mem_nil, or_false] at h
    rcases h with (h | h | h) | h | h
    · rw [h]; exact gm_self _ hl
    · rw [h]; exact gm_self _ hi
    · rw [h, hd.1]; exact gm_self _ hz
    · rw [h]; exact gm_self _ hc
    · exact gm_self _ h) rfl rfl rfl hd.2 hR
/-- caught by the only row of the table -/
theorem gz_catch1 {E : String} {ce : Cell} {q : Addr} {a0 b0 h0 k0 : Nat} (hown : s.vm.findClass "NurseryRowLaw" = some m.cls) (htb : c.exceptionTable.toList = tableOf [(a0, b0, h0, k0)]) (hcv : covers ⟨a0, b0, h0, k0⟩ pc = true) (hk0 : k0 ≠ 0)
    (hlink : (Cond.classLink "NurseryRowLaw" k0 E).before args s = true) (hcast : (Cond.castable E E).before args s = true) (hcell : H[q]? = some ce) (hv : ce.vm = .none) (hcl : s.vm.findClass E = some ce.cls)
    (kk : W p l e R s m args below meth c H locs cells slots Q (F0 m h0 ls [.ref q])) : vx_W p l e R s m args below meth c H locs cells slots Q (F0 m pc ls rest) q :=
  vx_catch hown [] ⟨a0, b0, h0, k0⟩ [] htb (fun _ h => absurd h List.not_mem_nil) hcv hk0 hlink hcast hcell hv hcl kk
end GZ
theorem gv_cast {s : State} {args : Array Value} (hT : gv_T s) {X : String} (hX : Cond.castable X X ∈ gvB) : (Cond.castable X X).before args s = true := by
  have h3 := hT.1 _ hX
  refine va_Nw.use ?_ h3
  rfl
/-- the class and the law's own long -/
def hpW (cI cP cL : ClassId) (a : Nat → Nat) (ho : Nat) (u : nSt × (Nat → Int64)) : va_W := nrW cI cP a u.1 ++ [(ho, .inl (cL, 1, .inr (.inl u.2)))]
def hpT (cI cP cL : ClassId) : List (ClassId × FieldType) := [(cI, .int), (cP, .object "NurseryRow$Part"), (cL, .long)]
/-- what a helper does with what the class does -/
def hpP (σ : nSt) (f : Nat → Int64) (post : Int32 → nSt → Prop) (thr : String → Prop) (cds : List (String × Int32)) : Int32 → nSt × (Nat → Int64) → Prop := fun k u =>
  (k = 0 ∧ ∃ r, post r u.1 ∧ u.2 0 = r.toInt64) ∨ (∃ E, thr E ∧ (E, k) ∈ cds ∧ u.1 = σ)
