/-! THE CLASS'S STATE, and a contract over a part of a world lifted to the whole -/
section LIFT
variable {S S' : Type} {D : va_G} {cl : List vw_C} {tys : List (ClassId × FieldType)} {l : Launch} {y : MethodName} {ws : List Cond} {rm : Room} {av : List Value}
theorem gx_Mp.lift {w wc : va_W} {r : Int32} (h : gx_Mp l y ws rm D cl tys wc av r) (isC : List Nat) (hC : isC.map (fun i => w[i]?) = wc.map some) (hnC : va_nd isC = true) : gx_Mp l y ws rm D cl tys w av r :=
  fun sz p e a1 a2 a3 s m args below a4 a5 hP a6 => h sz p e a1 a2 a3 s m args below a4 a5 ⟨hP.1, hP.2.1, hP.2.2.1.sub isC (gx_fm hC), hP.2.2.2.1, hP.2.2.2.2.sub isC hnC hC⟩ a6
theorem gx_lift_A {w wc : va_W} {sz : Nat} {isC : List Nat} (hC : isC.map (fun i => w[i]?) = wc.map some) {q : Nat} (h : va_A wc sz q) : va_A w sz q := by
  rcases h with ⟨k, e, hk⟩ | h
  · have h1 : (wc.map some)[k]? = some (some (q, e)) := by rw [List.getElem?_map, hk]; rfl
    rw [← hC, List.getElem?_map] at h1
    cases hi : isC[k]? with
    | none => rw [hi] at h1; cases h1
    | some i => rw [hi] at h1; exact Or.inl ⟨i, e, by simpa using h1⟩
  · exact Or.inr h
theorem gx_lift_join {A0 : Nat → Prop} {ws0 wc wr w1 w2 : va_W} {sz : Nat} {H0 H1 : Heap} (hz : H0.size = sz) (hP : va_P D cl ws0 H0) (hD : va_D A0 ws0) (isC isR isN : List Nat) (hC : isC.map (fun i => ws0[i]?) = wc.map some) (hR : isR.map (fun i => ws0[i]?) = wr.map some) (hn : va_nd isR = true) (hdis : ∀ i ∈ isR, i ∉ isC) (hnN : va_nd isN = true)
    (hN : isN.map (fun i => (wr ++ w1)[i]?) = w2.map some) (hk : ∀ q : Nat, q < H0.size → ¬ va_A wc sz q → H1[q]? = H0[q]?) (hF : ∀ q, va_A wc sz q → A0 q) (hP1 : va_P D cl w1 H1) (hD1 : va_D (va_A wc sz) w1) : va_P D cl w2 H1 ∧ va_D A0 w2 := by
  subst hz
  obtain ⟨h1, h2⟩ := va_join hP hD isC isR hC hR hn hdis hk hF hP1 hD1
  exact ⟨h1.sub isN (gx_fm hN), h2.sub isN hnN hN⟩
theorem gx_Mi.lift {wfc : S' → va_W} {wf : S → va_W} {σc : S'} {σ : S} {wr : va_W} {postc : Int32 → S' → Prop} {post : Int32 → S → Prop} (h : gx_Mi l y ws rm D cl tys wfc σc av postc) (up : S' → S) (isC isR isN : List Nat)
    (hC : isC.map (fun i => (wf σ)[i]?) = (wfc σc).map some) (hR : isR.map (fun i => (wf σ)[i]?) = wr.map some) (hnC : va_nd isC = true) (hn : va_nd isR = true) (hdis : ∀ i ∈ isR, i ∉ isC) (hnN : va_nd isN = true)
    (hN : ∀ u : S', isN.map (fun i => (wr ++ wfc u)[i]?) = (wf (up u)).map some) (hq : ∀ r u, postc r u → post r (up u)) : gx_Mi l y ws rm D cl tys wf σ av post := by
  intro sz p e a1 a2 a3 s m args below a4 a5 hP a6
  obtain ⟨n, o, b1, b2, b3, ⟨⟨r, u, c1, c2, c3, c4, c5⟩, hF⟩, L, d1, d2⟩ := h sz p e a1 a2 a3 s m args below a4 a5 ⟨hP.1, hP.2.1, hP.2.2.1.sub isC (gx_fm hC), hP.2.2.2.1, hP.2.2.2.2.sub isC hnC hC⟩ a6
  have hFa : ∀ q, va_A (wfc σc) sz q → va_A (wf σ) sz q := fun q h => gx_lift_A hC h
  obtain ⟨k1, k2⟩ := gx_lift_join (w2 := wf (up u)) hP.2.1 hP.2.2.1 (hP.2.2.2.2.self (sz := sz)) isC isR isN hC hR hn hdis hnN (hN u) hF.2 hFa c3 c5
  exact ⟨n, o, b1, b2, b3, ⟨⟨r, up u, c1, hq r u c2, k1, c4, k2⟩, hF.1, fun q h1 h2 => hF.2 q h1 (fun z => h2 (hFa q z))⟩, L, d1, fun q hq => hFa _ (d2 q hq)⟩
theorem gx_Mv.lift {wfc : S' → va_W} {wf : S → va_W} {σc : S'} {σ : S} {wr : va_W} {postc : S' → Prop} {post : S → Prop} (h : gx_Mv l y ws rm D cl tys wfc σc av postc) (up : S' → S) (isC isR isN : List Nat)
    (hC : isC.map (fun i => (wf σ)[i]?) = (wfc σc).map some) (hR : isR.map (fun i => (wf σ)[i]?) = wr.map some) (hnC : va_nd isC = true) (hn : va_nd isR = true) (hdis : ∀ i ∈ isR, i ∉ isC) (hnN : va_nd isN = true)
    (hN : ∀ u : S', isN.map (fun i => (wr ++ wfc u)[i]?) = (wf (up u)).map some) (hq : ∀ u, postc u → post (up u)) : gx_Mv l y ws rm D cl tys wf σ av post := by
  intro sz p e a1 a2 a3 s m args below a4 a5 hP a6
  obtain ⟨n, o, b1, b2, b3, ⟨⟨u, c1, c2, c3, c4, c5⟩, hF⟩, L, d1, d2⟩ := h sz p e a1 a2 a3 s m args below a4 a5 ⟨hP.1, hP.2.1, hP.2.2.1.sub isC (gx_fm hC), hP.2.2.2.1, hP.2.2.2.2.sub isC hnC hC⟩ a6
  have hFa : ∀ q, va_A (wfc σc) sz q → va_A (wf σ) sz q := fun q h => gx_lift_A hC h
  obtain ⟨k1, k2⟩ := gx_lift_join (w2 := wf (up u)) hP.2.1 hP.2.2.1 (hP.2.2.2.2.self (sz := sz)) isC isR isN hC hR hn hdis hnN (hN u) hF.2 hFa c3 c5
  exact ⟨n, o, b1, b2, b3, ⟨⟨up u, c1, hq u c2, k1, c4, k2⟩, hF.1, fun q h1 h2 => hF.2 q h1 (fun z => h2 (hFa q z))⟩, L, d1, fun q hq => hFa _ (d2 q hq)⟩
end LIFT
/-- rooms by depth -/
def gR (d : Nat) : Room := { frames := d, cells := 0, slots := 0, locals := 40 * d }
def gRc (d k n : Nat) : Room := { frames := d, cells := k, slots := n, locals := 40 * d }
section CW
variable {R : Room} {s : State} {args : Array Value} {own : String} {index maxL n : Nat} {y : MethodName} {bytes : ByteArray} {ret : Option FieldType} {rm : Room} {x : Cond}
theorem gx_cwV (hts : ∀ w ∈ x :: gW, w.before args s = true) {C : String} (hl : Cond.methodLink own index y ∈ gW) (hc : Cond.code y bytes maxL ret ∈ gW) (hi : Cond.instanceMethod y ∈ gW) (hs : Cond.selects C y y ∈ gW) (hz : Cond.initialized C ∈ gW)
    (hd : y.cls = C ∧ y.cls ≠ "java/lang/invoke/MethodHandle" ∧ y.cls ≠ "java/lang/invoke/VarHandle" ∧ (parseMethodDescriptor y.desc).map (fun d => d.parameters.length) = some n) (hR : rm.frames + 1 ≤ R.frames ∧ 8 + (maxL + 11) + rm.locals ≤ R.locals) :
    CallW R s args own C index y bytes maxL ret (.code y bytes maxL ret :: gW) rm rm.cells rm.slots n :=
  cwV n hts (fun w h => by
    simp only [wsV, List.mem_append, List.mem_cons, List.not_mem_nil, or_false] at h
    rcases h with (h | h | h | h) | h | h
    · rw [h]; exact gm_self _ hl
    · rw [h]; exact gm_self _ hi
    · rw [h]; exact gm_self _ hs
    · rw [h]; exact gm_self _ hz
    · rw [h]; exact gm_self _ hc
    · exact gm_self _ h) rfl rfl rfl hd hR
theorem gx_cwS (hts : ∀ w ∈ x :: gW, w.before args s = true) {C : String} (hl : Cond.methodLink own index y ∈ gW) (hc : Cond.code y bytes maxL ret ∈ gW) (hi : Cond.static y ∈ gW) (hz : Cond.initialized C ∈ gW)
    (hd : y.cls = C ∧ y.cls ≠ "java/lang/invoke/MethodHandle" ∧ y.cls ≠ "java/lang/invoke/VarHandle" ∧ (parseMethodDescriptor y.desc).map (fun d => d.parameters.length) = some n) (hR : rm.frames + 1 ≤ R.frames ∧ 8 + (maxL + 11) + rm.locals ≤ R.locals) :
    CallB R s args own index y bytes maxL ret (.code y bytes maxL ret :: gW) rm rm.cells rm.slots n ∧ (Cond.static y).before args s = true := by
  have g : ∀ w ∈ gW, w.before args s = true := fun w h => hts w (List.mem_cons_of_mem _ h)
  refine ⟨callB_of n hts (fun w h => ?_) rfl rfl rfl (by rw [hd.1]; exact g _ hz) (g _ hl) hd.2 hR, g _ hi⟩
  rcases List.mem_cons.mp h with h | h
  · rw [h]; exact gm_self _ hc
  · exact gm_self _ h
end CW
/-- a Part's cell -/
abbrev pSt : Type := Int32 × Int32 × Int32 × Int32
def ptW (h : Nat) (u : pSt) : va_W := [(h, .inr (0, [.int u.1, .int u.2.1, .int u.2.2.1, .int u.2.2.2]))]
/-- the class's state: its ints (copied, ageLimit, rowInUse, collections, copiesInRows, copiesInOld), its parts' (first, cells, used, objects), roots, copies, cells, how many cells, where they lie -/
def nSt : Type := (Nat → Int32) × (Nat → Nat → Int32) × (Nat → Int32) × (Nat → Int32) × (Nat → Int32) × Nat × Nat
def nSt.F (σ : nSt) : Nat → Int32 := σ.1
def nSt.P (σ : nSt) : Nat → Nat → Int32 := σ.2.1
def nSt.R (σ : nSt) : Nat → Int32 := σ.2.2.1
def nSt.C (σ : nSt) : Nat → Int32 := σ.2.2.2.1
def nSt.X (σ : nSt) : Nat → Int32 := σ.2.2.2.2.1
def nSt.N (σ : nSt) : Nat := σ.2.2.2.2.2.1
def nSt.hx (σ : nSt) : Nat := σ.2.2.2.2.2.2
def up2 (P : Nat → Nat → Int32) (i j : Nat) (v : Int32) : Nat → Nat → Int32 := fun a b => if a = i then (if b = j then v else P a b) else P a b
def upP (P : Nat → Nat → Int32) (i : Nat) (u : pSt) : Nat → Nat → Int32 := fun a b => if a = i then (match b with | 0 => u.1 | 1 => u.2.1 | 2 => u.2.2.1 | _ => u.2.2.2) else P a b
def nSt.sF (σ : nSt) (k : Nat) (v : Int32) : nSt := (upd σ.F k v, σ.P, σ.R, σ.C, σ.X, σ.N, σ.hx)
def nSt.sP (σ : nSt) (i : Nat) (u : pSt) : nSt := (σ.F, upP σ.P i u, σ.R, σ.C, σ.X, σ.N, σ.hx)
def nSt.sR (σ : nSt) (f : Nat → Int32) : nSt := (σ.F, σ.P, f, σ.C, σ.X, σ.N, σ.hx)
def nSt.sC (σ : nSt) (f : Nat → Int32) : nSt := (σ.F, σ.P, σ.R, f, σ.X, σ.N, σ.hx)
def nSt.sX (σ : nSt) (f : Nat → Int32) : nSt := (σ.F, σ.P, σ.R, σ.C, f, σ.N, σ.hx)
def nSt.sN (σ : nSt) (n h : Nat) (f : Nat → Int32) : nSt := (σ.F, σ.P, σ.R, σ.C, f, n, h)
/-- a part's four numbers -/
def nSt.p (σ : nSt) (i : Nat) : pSt := (σ.P i 0, σ.P i 1, σ.P i 2, σ.P i 3)
def nrT (cI cP : ClassId) : List (ClassId × FieldType) := [(cI, .int), (cP, .object "NurseryRow$Part")]
/-- its cells: a gives where they lie -/
def nrW (cI cP : ClassId) (a : Nat → Nat) (σ : nSt) : va_W :=
  [(a 0, .inr (1, [.ref (a 1), .ref (a 6), .ref (a 7), .ref σ.hx, .int (σ.F 0), .int (σ.F 1), .int (σ.F 2), .int (σ.F 3), .int (σ.F 4), .int (σ.F 5)])),
   (a 1, .inl (cP, 4, .inr (.inr (.inr (.inr (fun j => some (a (2 + j)))))))),
   (a 2, .inr (0, [.int (σ.P 0 0), .int (σ.P 0 1), .int (σ.P 0 2), .int (σ.P 0 3)])),
   (a 3, .inr (0, [.int (σ.P 1 0), .int (σ.P 1 1), .int (σ.P 1 2), .int (σ.P 1 3)])),
   (a 4, .inr (0, [.int (σ.P 2 0), .int (σ.P 2 1), .int (σ.P 2 2), .int (σ.P 2 3)])),
   (a 5, .inr (0, [.int (σ.P 3 0), .int (σ.P 3 1), .int (σ.P 3 2), .int (σ.P 3 3)])),
   (a 6, .inl (cI, 16, .inl σ.R)), (a 7, .inl (cI, 512, .inl σ.C)), (σ.hx, .inl (cI, σ.N, .inl σ.X))]
theorem nr_pl (cI cP : ClassId) (a : Nat → Nat) (σ : nSt) {i : Nat} (hi : i < 4) : (nrW cI cP a σ)[2 + i]? = some (a (2 + i), .inr (0, [.int (σ.P i 0), .int (σ.P i 1), .int (σ.P i 2), .int (σ.P i 3)])) := by
  rcases (show i = 0 ∨ i = 1 ∨ i = 2 ∨ i = 3 by omega) with rfl | rfl | rfl | rfl <;> rfl
section PL
variable {l : Launch} {y : MethodName} {ws : List Cond} {rm : Room} {D : va_G} {cI cP : ClassId} {a : Nat → Nat} {σ : nSt}
/-- a Part's contract over the class's world -/
theorem nr_liftp {i : Nat} {av : List Value} {r : Int32} (hi : i < 4) (h : gx_Mp l y ws rm D gC (nrT cI cP) (ptW (a (2 + i)) (σ.p i)) av r) : gx_Mp l y ws rm D gC (nrT cI cP) (nrW cI cP a σ) av r := by
  refine gx_Mp.lift h [2 + i] ?_ rfl
  rcases (show i = 0 ∨ i = 1 ∨ i = 2 ∨ i = 3 by omega) with rfl | rfl | rfl | rfl <;> rfl
theorem nr_lifti {i : Nat} {av : List Value} {post : Int32 → pSt → Prop} (hi : i < 4) (h : gx_Mi l y ws rm D gC (nrT cI cP) (ptW (a (2 + i))) (σ.p i) av post) : gx_Mi l y ws rm D gC (nrT cI cP) (nrW cI cP a) σ av (fun r u => ∃ v, post r v ∧ u = σ.sP i v) := by
  rcases (show i = 0 ∨ i = 1 ∨ i = 2 ∨ i = 3 by omega) with rfl | rfl | rfl | rfl
  · exact gx_Mi.lift (wr := (nrW cI cP a σ).eraseIdx 2) h (fun v => σ.sP 0 v) [2] [0, 1, 3, 4, 5, 6, 7, 8] [0, 1, 8, 2, 3, 4, 5, 6, 7] rfl rfl rfl rfl (by decide) rfl (fun _ => rfl) (fun r u hq => ⟨u, hq, rfl⟩)
  · exact gx_Mi.lift (wr := (nrW cI cP a σ).eraseIdx 3) h (fun v => σ.sP 1 v) [3] [0, 1, 2, 4, 5, 6, 7, 8] [0, 1, 2, 8, 3, 4, 5, 6, 7] rfl rfl rfl rfl (by decide) rfl (fun _ => rfl) (fun r u hq => ⟨u, hq, rfl⟩)
  · exact gx_Mi.lift (wr := (nrW cI cP a σ).eraseIdx 4) h (fun v => σ.sP 2 v) [4] [0, 1, 2, 3, 5, 6, 7, 8] [0, 1, 2, 3, 8, 4, 5, 6, 7] rfl rfl rfl rfl (by decide) rfl (fun _ => rfl) (fun r u hq => ⟨u, hq, rfl⟩)
  · exact gx_Mi.lift (wr := (nrW cI cP a σ).eraseIdx 5) h (fun v => σ.sP 3 v) [5] [0, 1, 2, 3, 4, 6, 7, 8] [0, 1, 2, 3, 4, 8, 5, 6, 7] rfl rfl rfl rfl (by decide) rfl (fun _ => rfl) (fun r u hq => ⟨u, hq, rfl⟩)
theorem nr_liftv {i : Nat} {av : List Value} {post : pSt → Prop} (hi : i < 4) (h : gx_Mv l y ws rm D gC (nrT cI cP) (ptW (a (2 + i))) (σ.p i) av post) : gx_Mv l y ws rm D gC (nrT cI cP) (nrW cI cP a) σ av (fun u => ∃ v, post v ∧ u = σ.sP i v) := by
  rcases (show i = 0 ∨ i = 1 ∨ i = 2 ∨ i = 3 by omega) with rfl | rfl | rfl | rfl
  · exact gx_Mv.lift (wr := (nrW cI cP a σ).eraseIdx 2) h (fun v => σ.sP 0 v) [2] [0, 1, 3, 4, 5, 6, 7, 8] [0, 1, 8, 2, 3, 4, 5, 6, 7] rfl rfl rfl rfl (by decide) rfl (fun _ => rfl) (fun u hq => ⟨u, hq, rfl⟩)
  · exact gx_Mv.lift (wr := (nrW cI cP a σ).eraseIdx 3) h (fun v => σ.sP 1 v) [3] [0, 1, 2, 4, 5, 6, 7, 8] [0, 1, 2, 8, 3, 4, 5, 6, 7] rfl rfl rfl rfl (by decide) rfl (fun _ => rfl) (fun u hq => ⟨u, hq, rfl⟩)
  · exact gx_Mv.lift (wr := (nrW cI cP a σ).eraseIdx 4) h (fun v => σ.sP 2 v) [4] [0, 1, 2, 3, 5, 6, 7, 8] [0, 1, 2, 3, 8, 4, 5, 6, 7] rfl rfl rfl rfl (by decide) rfl (fun _ => rfl) (fun u hq => ⟨u, hq, rfl⟩)
  · exact gx_Mv.lift (wr := (nrW cI cP a σ).eraseIdx 5) h (fun v => σ.sP 3 v) [5] [0, 1, 2, 3, 4, 6, 7, 8] [0, 1, 2, 3, 4, 8, 5, 6, 7] rfl rfl rfl rfl (by decide) rfl (fun _ => rfl) (fun u hq => ⟨u, hq, rfl⟩)
end PL
