/-! Arrays.fill, and static calls -/
section GXS
variable {S : Type} {D : va_G} {cl : List vw_C} {tys : List (ClassId × FieldType)}
variable {p : Program} {l : Launch} {e : Env} {R : Room} {s : State} {m : MethodId} {args : Array Value} {below : List Frame} {meth : Method} {c : Code} {H : Heap} {locs : List Loc} {cells slots : Nat} {Q : State → Prop}
variable {cc : ByteArray} {nL : Nat} {ws : List Cond} {y : MethodName} {A : Nat → Prop} {pc : Nat} {ls : Array Slot} {rest : List Value}
variable {yc : MethodName} {bytes : ByteArray} {maxL n index : Nat} {retc : Option FieldType} {wsc : List Cond} {rmc : Room} {As : List Value} {ret : Option FieldType}
theorem gx_callvs {wf : S → va_W} {σ : S} {post : S → Prop} (E : gx_E p s m args meth c cc ret nL ws y) (hM : gx_Mv l yc wsc rmc D cl tys wf σ As post) (cw : CallB R s args y.cls index yc bytes maxL retc wsc rmc rmc.cells rmc.slots n ∧ (Cond.static yc).before args s = true)
    (hK : va_K D cl tys s) (hP : va_P D cl (wf σ) H) (hD : va_D A (wf σ)) (hS : va_S A s.heap H locs) (hA : ∀ q : Nat, s.heap.size ≤ q → A q) (hl : ls.size = nL) {st : List Value} (hst : st = As.reverse ++ rest) (hn : As.length = n) (hW : (rest.map fun v => v.category).sum ≤ 8)
    (hf : cells + rmc.cells ≤ R.cells ∧ slots + rmc.slots ≤ R.slots) (hdg : decode cc pc = .ok (.invokestatic index, 3))
    (kk : ∀ (u : S) (H1 : Heap) (locs1 : List Loc), post u → va_P D cl (wf u) H1 → va_D A (wf u) → va_S A s.heap H1 locs1 → W p l e R s m args below meth c H1 locs1 (cells + rmc.cells) (slots + rmc.slots) Q (F0 m (pc + 3) ls rest)) : W p l e R s m args below meth c H locs cells slots Q (F0 m pc ls st) := by
  have hF := gx_in hD hS hA
  refine va_callv (va_runS (g := F0 m pc ls st) (As := As) (rest := rest) ⟨E.1, E.2.1, E.2.2.2.1, E.2.2.2.2.2.1, E.2.2.2.2.1⟩ (hM H.size) cw ⟨gx_blind, gx_pre hP hK hD⟩ rfl hn hl hst (lv_room hW) hdg hf) hS (fun q _ h => hF q h) hF (fun u t H1 locs1 ht hvm hw hB hz1 hk1 hS1 => ?_)
  obtain ⟨hP1, hK1, hD1⟩ := hB
  rw [ht] at hP1
  exact kk u H1 locs1 hw hP1 (hD1.weaken (fun _ q _ h => hF q.1 h)) hS1
/-- one that only looks, and answers nothing -/
def gx_Mq (l : Launch) (y : MethodName) (ws : List Cond) (rm : Room) (D : va_G) (cl : List vw_C) (tys : List (ClassId × FieldType)) (w : va_W) (av : List Value) : Prop :=
  ∀ sz : Nat, Met l y ws rm (gx_Pc D cl tys w sz av) (fun _ st o t => o = .returned none ∧ t.heap = st.heap) 0 0 (fun _ => False)
theorem gx_Mq.of {ws' : List Cond} {rm : Room} {w : va_W} {av : List Value}
    (hy : plainName y.cls = true) (hw : ws = Cond.code y cc maxL none :: ws') (hlen : (lg_sl av).length ≤ maxL)
    (body : ∀ (p : Program) (e : Env) (s : State) (m : MethodId) (args : Array Value) (below : List Frame) (meth : Method) (c : Code) (ls : Array Slot),
      gx_E p s m args meth c cc none maxL ws y → va_K D cl tys s → va_P D cl w s.heap → va_D (fun _ => True) w → lv_has ls maxL (lv_args 0 av) →
      W p l e rm s m args below meth c s.heap [] 0 0 (MQ below (fun _ st o t => o = .returned none ∧ t.heap = st.heap) args s 0 0 (fun _ => False)) (F0 m 0 ls [])) : gx_Mq l y ws rm D cl tys w av := by
  intro sz
  refine Met.ofW (cc := cc) (maxL := maxL) (ret := none) hy hw ?_
  intro p e s m args below meth c s₁ B hml hv
  obtain ⟨rfl, hsz, hP, hK, hD0⟩ := hv
  have hl := lv_entry av (n := maxL) hlen
  rw [lg_entry_eq]
  exact body p e s m _ below meth c _ ⟨B.exec, B.bytes, B.returns, hml, atoms_spec (ws := ws) B.pre, findClass_of_methodNamed B.named, B.notSynchronized, (name_of_methodNamed B.named B.method).1⟩ hK hP hD0 hl
theorem gx_qret (E : gx_E p s m args meth c cc none nL ws y) (hdg : decode cc pc = .ok (.return_, 1)) :
    W p l e R s m args below meth c s.heap [] 0 0 (MQ below (fun _ st o t => o = .returned none ∧ t.heap = st.heap) args s 0 0 (fun _ => False)) (F0 m pc ls []) :=
  W.vret E.1 E.2.1 E.2.2.1 (fun t ht _ => ⟨rfl, ht⟩) (fun q h => by cases h) hdg (hlocks := E.2.2.2.2.2.2.1)
theorem gx_callqs {w : va_W} (E : gx_E p s m args meth c cc ret nL ws y) (hM : gx_Mq l yc wsc rmc D cl tys w As) (cw : CallB R s args y.cls index yc bytes maxL retc wsc rmc 0 0 n ∧ (Cond.static yc).before args s = true)
    (hK : va_K D cl tys s) (hP : va_P D cl w H) (hD : va_D A w) (hl : ls.size = nL) {st : List Value} (hst : st = As.reverse ++ rest) (hn : As.length = n) (hW : (rest.map fun v => v.category).sum ≤ 8)
    (hf : cells ≤ R.cells ∧ slots ≤ R.slots) (hdg : decode cc pc = .ok (.invokestatic index, 3)) (kk : W p l e R s m args below meth c H locs cells slots Q (F0 m (pc + 3) ls rest)) : W p l e R s m args below meth c H locs cells slots Q (F0 m pc ls st) := by
  have hr := W.runS (g := F0 m pc ls st) (H := H) (locs := locs) (cells := cells) (slots := slots) (As := As) (rest := rest) (e := e) (below := below) (meth := meth) ⟨E.1, E.2.1, E.2.2.2.1, E.2.2.2.2.2.1, E.2.2.2.2.1⟩ (hM H.size) cw ⟨gx_blind, gx_pre hP hK hD⟩ rfl hn hl hst (lv_room hW) hdg hf
  intro T hT X
  obtain ⟨v, st₀, t, T', L, h0, X', hL, e1, ⟨hv, hh⟩, st1⟩ := hr T hT X
  cases hv
  obtain ⟨t2, a1, b1⟩ := kk T' (by rw [e1, hh, h0]) (Stand.forget X' (fun q h => (hL q h).elim))
  exact ⟨t2, st1 t2 a1, b1⟩
end GXS
/-- an array's cell -/
def arW (cI : ClassId) (h n : Nat) (f : Nat → Int32) : va_W := [(h, .inl (cI, n, .inl f))]
/-- f with v from lo on, up to hi -/
def fillF (f : Nat → Int32) (lo hi : Nat) (v : Int32) : Nat → Int32 := fun j => if lo ≤ j ∧ j < hi then v else f j
theorem fillF_0 (f : Nat → Int32) (lo : Nat) (v : Int32) : fillF f lo lo v = f := funext fun j => by simp only [fillF]; rw [if_neg (by omega)]
theorem fillF_1 (f : Nat → Int32) {lo hi : Nat} (h : lo ≤ hi) (v : Int32) : upd (fillF f lo hi v) hi v = fillF f lo (hi + 1) v := funext fun j => by
  simp only [fillF, upd]
  by_cases e : j = hi
  · rw [if_pos e, if_pos (by omega)]
  · rw [if_neg e]
    by_cases q : lo ≤ j ∧ j < hi
    · rw [if_pos q, if_pos (by omega)]
    · rw [if_neg q, if_neg (by omega)]
set_option maxHeartbeats 4000000 in
theorem qAr_rangeCheck (l : Launch) (D : va_G) (tys : List (ClassId × FieldType)) (w : va_W) (n f t : Nat) (hf : f ≤ t) (ht : t ≤ n) (hn : n < 2 ^ 31) : gx_Mq l yAr_rangeCheck (Cond.code yAr_rangeCheck cAr_rangeCheck 3 none :: gW) (gR 0) D gC tys w [.int (nI n), .int (nI f), .int (nI t)] := by
  refine gx_Mq.of (cc := cAr_rangeCheck) (maxL := 3) (by decide) rfl (Nat.le_of_ble_eq_true rfl) ?_
  intro p e s m args below meth c ls E hK hP hD hl
  obtain ⟨hx, hb, hr, hml, hts, hown, hlocks, hnm⟩ := id E
  have hl : lv_has ls 3 [(0, .int (nI n)), (1, .int (nI f)), (2, .int (nI t))] := hl
  refine lv_iload_n hx hb dAr_rangeCheck_0 rfl (lv_at hl 1 rfl) ?_
  refine lv_iload_n hx hb dAr_rangeCheck_1 rfl (lv_at hl 2 rfl) ?_
  refine lv_icmp_le (tgt := 46) hx hb dAr_rangeCheck_2 (by decide) (fun c_2 => ?_) (fun c_2 => ?_)
  · refine lv_iload_n hx hb dAr_rangeCheck_46 rfl (lv_at hl 1 rfl) ?_
    refine lv_if_ge (tgt := 59) hx hb dAr_rangeCheck_47 (by decide) (fun c_47 => ?_) (fun c_47 => ?_)
    · refine lv_iload_n hx hb dAr_rangeCheck_59 rfl (lv_at hl 2 rfl) ?_
      refine lv_iload_n hx hb dAr_rangeCheck_60 rfl (lv_at hl 0 rfl) ?_
      refine lv_icmp_le (tgt := 73) hx hb dAr_rangeCheck_61 (by decide) (fun c_61 => ?_) (fun c_61 => ?_)
      · exact gx_qret E dAr_rangeCheck_73
      · exact absurd c_61 (not_not_intro (nI_le ht hn))
    · exact absurd c_47 (not_not_intro (nI_pos' (by omega)))
  · exact absurd c_2 (not_not_intro (nI_le hf (by omega)))
set_option maxHeartbeats 4000000 in
set_option maxRecDepth 100000 in
theorem qAr_fill2 (l : Launch) (D : va_G) (cI : ClassId) (tys : List (ClassId × FieldType)) (h n : Nat) (f : Nat → Int32) (v : Int32) (hn : n < 2 ^ 31) : gx_Mv l yAr_fill2 (Cond.code yAr_fill2 cAr_fill2 4 none :: gW) (gR 0) D gC ((cI, .int) :: tys) (arW cI h n) f [.ref h, .int v] (fun g => g = fillF f 0 n v) := by
  refine gx_Mv.of (cc := cAr_fill2) (maxL := 4) (by decide) rfl (Nat.le_of_ble_eq_true rfl) ?_
  intro p e s m args below meth c ls A E hA hK hP hD hS hl
  obtain ⟨hx, hb, hr, hml, hts, hown, hlocks, hnm⟩ := id E
  have hg : ∀ w ∈ gW, w.before args s = true := fun w h => hts w (List.mem_cons_of_mem _ h)
  have hown : s.vm.findClass "java/util/Arrays" = some m.cls := hown
  have hl : lv_has ls 4 [(0, .ref h), (1, .int v)] := hl
  refine lv_iconst (v := 0) hx hb dAr_fill2_0 (by decide) ?_
  refine lv_istore_n (lv' := [(2, .int 0), (0, .ref h), (1, .int v)]) hx hb dAr_fill2_1 rfl hl (by decide) rfl (fun ls hl => ?_)
  refine lv_aload_n hx hb dAr_fill2_2 rfl (lv_at hl 1 rfl) ?_
  refine va_alen (v := nI n) hx hb hK hP 0 0 rfl rfl rfl dAr_fill2_3 ?_
  refine lv_istore_n (lv' := [(3, .int (nI n)), (2, .int 0), (0, .ref h), (1, .int v)]) hx hb dAr_fill2_4 rfl hl (by decide) rfl (fun ls hl => ?_)
  have key : ∀ (k t : Nat) (H : Heap) (locs : List Loc) (ls : Array Slot), t + k = n → 0 ≤ t → va_P D gC (arW cI h n (fillF f 0 t v)) H → va_D A (arW cI h n (fillF f 0 t v)) → va_S A s.heap H locs → lv_has ls 4 [(0, .ref h), (1, .int v), (2, .int (nI t)), (3, .int (nI n))] → W p l e (gR 0) s m args below meth c H locs 0 0 (MQ below (va_Qv (fun g => g = fillF f 0 n v) (gx_B D gC ((cI, .int) :: tys) (arW cI h n) A) A) args s 0 0 A) (F0 m 5 ls []) := by
    intro k
    induction k with
    | zero =>
      intro t H locs ls hte hlt hP hD hS hl
      refine lv_iload_n hx hb dAr_fill2_5 rfl (lv_at hl 2 rfl) ?_
      refine lv_iload_n hx hb dAr_fill2_6 rfl (lv_at hl 3 rfl) ?_
      refine lv_icmp_ge (tgt := 20) hx hb dAr_fill2_7 (by decide) (fun c_7 => ?_) (fun c_7 => ?_)
      · exact gx_vret (u := fillF f 0 t v) E hK hP hD hS (by rw [show t = n by omega]) dAr_fill2_20
      · exact absurd c_7 (not_not_intro (nI_le (by omega) (by omega)))
    | succ k ih =>
      intro t H locs ls hte hlt hP hD hS hl
      refine lv_iload_n hx hb dAr_fill2_5 rfl (lv_at hl 2 rfl) ?_
      refine lv_iload_n hx hb dAr_fill2_6 rfl (lv_at hl 3 rfl) ?_
      refine lv_icmp_ge (tgt := 20) hx hb dAr_fill2_7 (by decide) (fun c_7 => ?_) (fun c_7 => ?_)
      · exact absurd c_7 (nI_ge (by omega) (by omega))
      · refine lv_aload_n hx hb dAr_fill2_10 rfl (lv_at hl 0 rfl) ?_
        refine lv_iload_n hx hb dAr_fill2_11 rfl (lv_at hl 2 rfl) ?_
        refine lv_iload_n hx hb dAr_fill2_12 rfl (lv_at hl 1 rfl) ?_
        refine va_iast hx hb hK hP hD hS 0 0 rfl rfl (vp_in_nI (show t < n by omega) hn) dAr_fill2_13 (fun H locs hP hD hS => ?_)
        rw [nI_clamp (show t < 2 ^ 31 by omega)] at hP hD
        have hP : va_P D gC (arW cI h n (upd (fillF f 0 t v) t v)) H := hP
        have hD : va_D A (arW cI h n (upd (fillF f 0 t v) t v)) := hD
        rw [fillF_1 f hlt v] at hP hD
        have hP : va_P D gC (arW cI h n (fillF f 0 (t + 1) v)) H := hP
        have hD : va_D A (arW cI h n (fillF f 0 (t + 1) v)) := hD
        refine lv_iinc (v := nI (t + 1)) (lv' := [(2, .int (nI (t + 1))), (0, .ref h), (1, .int v), (3, .int (nI n))]) hx hb dAr_fill2_14 hl (k := 2) rfl (by rw [← nI_1]; rfl) (by decide) rfl (fun ls hl => ?_)
        refine lv_goto (tgt := 5) hx hb dAr_fill2_17 (by decide) ?_
        exact ih (t + 1) H locs ls (by omega) (by omega) hP hD hS (lv_sub hl [1, 2, 0, 3] rfl)
  exact key n 0 _ _ ls (by omega) (Nat.le_refl _) (by rw [fillF_0]; exact hP) (by rw [fillF_0]; exact hD) hS (lv_sub hl [2, 3, 1, 0] rfl)
set_option maxHeartbeats 4000000 in
set_option maxRecDepth 100000 in
theorem qAr_fill4 (l : Launch) (D : va_G) (cI : ClassId) (tys : List (ClassId × FieldType)) (h n : Nat) (f : Nat → Int32) (v : Int32) (lo hi : Nat) (h1 : lo ≤ hi) (h2 : hi ≤ n) (hn : n < 2 ^ 31) : gx_Mv l yAr_fill4 (Cond.code yAr_fill4 cAr_fill4 5 none :: gW) (gR 1) D gC ((cI, .int) :: tys) (arW cI h n) f [.ref h, .int (nI lo), .int (nI hi), .int v] (fun g => g = fillF f lo hi v) := by
  refine gx_Mv.of (cc := cAr_fill4) (maxL := 5) (by decide) rfl (Nat.le_of_ble_eq_true rfl) ?_
  intro p e s m args below meth c ls A E hA hK hP hD hS hl
  obtain ⟨hx, hb, hr, hml, hts, hown, hlocks, hnm⟩ := id E
  have hg : ∀ w ∈ gW, w.before args s = true := fun w h => hts w (List.mem_cons_of_mem _ h)
  have hown : s.vm.findClass "java/util/Arrays" = some m.cls := hown
  have hl : lv_has ls 5 [(0, .ref h), (1, .int (nI lo)), (2, .int (nI hi)), (3, .int v)] := hl
  refine lv_aload_n hx hb dAr_fill4_0 rfl (lv_at hl 0 rfl) ?_
  refine va_alen (v := nI n) hx hb hK hP 0 0 rfl rfl rfl dAr_fill4_1 ?_
  refine lv_iload_n hx hb dAr_fill4_2 rfl (lv_at hl 1 rfl) ?_
  refine lv_iload_n hx hb dAr_fill4_3 rfl (lv_at hl 2 rfl) ?_
  refine gx_callqs (As := [.int (nI n), .int (nI lo), .int (nI hi)]) (rest := []) E (qAr_rangeCheck l D _ _ n lo hi h1 h2 hn) (gx_cwS hts l_Ar_13 k_Ar_rangeCheck kt_Ar_rangeCheck z_Ar n_Ar_rangeCheck ⟨by decide, by decide⟩) hK hP hD hl.1 rfl rfl (by decide) ⟨Nat.zero_le _, Nat.zero_le _⟩ dAr_fill4_4 ?_
  refine lv_iload_n hx hb dAr_fill4_7 rfl (lv_at hl 1 rfl) ?_
  refine lv_istore (lv' := [(4, .int (nI lo)), (0, .ref h), (1, .int (nI lo)), (2, .int (nI hi)), (3, .int v)]) hx hb dAr_fill4_8 hl (by decide) rfl (fun ls hl => ?_)
  have key : ∀ (k t : Nat) (H : Heap) (locs : List Loc) (ls : Array Slot), t + k = hi → lo ≤ t → va_P D gC (arW cI h n (fillF f lo t v)) H → va_D A (arW cI h n (fillF f lo t v)) → va_S A s.heap H locs → lv_has ls 5 [(0, .ref h), (1, .int (nI lo)), (2, .int (nI hi)), (3, .int v), (4, .int (nI t))] → W p l e (gR 1) s m args below meth c H locs 0 0 (MQ below (va_Qv (fun g => g = fillF f lo hi v) (gx_B D gC ((cI, .int) :: tys) (arW cI h n) A) A) args s 0 0 A) (F0 m 10 ls []) := by
    intro k
    induction k with
    | zero =>
      intro t H locs ls hte hlt hP hD hS hl
      refine lv_iload hx hb dAr_fill4_10 (lv_at hl 4 rfl) ?_
      refine lv_iload_n hx hb dAr_fill4_12 rfl (lv_at hl 2 rfl) ?_
      refine lv_icmp_ge (tgt := 27) hx hb dAr_fill4_13 (by decide) (fun c_13 => ?_) (fun c_13 => ?_)
      · exact gx_vret (u := fillF f lo t v) E hK hP hD hS (by rw [show t = hi by omega]) dAr_fill4_27
      · exact absurd c_13 (not_not_intro (nI_le (by omega) (by omega)))
    | succ k ih =>
      intro t H locs ls hte hlt hP hD hS hl
      refine lv_iload hx hb dAr_fill4_10 (lv_at hl 4 rfl) ?_
      refine lv_iload_n hx hb dAr_fill4_12 rfl (lv_at hl 2 rfl) ?_
      refine lv_icmp_ge (tgt := 27) hx hb dAr_fill4_13 (by decide) (fun c_13 => ?_) (fun c_13 => ?_)
      · exact absurd c_13 (nI_ge (by omega) (by omega))
      · refine lv_aload_n hx hb dAr_fill4_16 rfl (lv_at hl 0 rfl) ?_
        refine lv_iload hx hb dAr_fill4_17 (lv_at hl 4 rfl) ?_
        refine lv_iload_n hx hb dAr_fill4_19 rfl (lv_at hl 3 rfl) ?_
        refine va_iast hx hb hK hP hD hS 0 0 rfl rfl (vp_in_nI (show t < n by omega) hn) dAr_fill4_20 (fun H locs hP hD hS => ?_)
        rw [nI_clamp (show t < 2 ^ 31 by omega)] at hP hD
        have hP : va_P D gC (arW cI h n (upd (fillF f lo t v) t v)) H := hP
        have hD : va_D A (arW cI h n (upd (fillF f lo t v) t v)) := hD
        rw [fillF_1 f hlt v] at hP hD
        have hP : va_P D gC (arW cI h n (fillF f lo (t + 1) v)) H := hP
        have hD : va_D A (arW cI h n (fillF f lo (t + 1) v)) := hD
        refine lv_iinc (v := nI (t + 1)) (lv' := [(4, .int (nI (t + 1))), (0, .ref h), (1, .int (nI lo)), (2, .int (nI hi)), (3, .int v)]) hx hb dAr_fill4_21 hl (k := 4) rfl (by rw [← nI_1]; rfl) (by decide) rfl (fun ls hl => ?_)
        refine lv_goto (tgt := 10) hx hb dAr_fill4_24 (by decide) ?_
        exact ih (t + 1) H locs ls (by omega) (by omega) hP hD hS (lv_sub hl [1, 2, 3, 4, 0] rfl)
  exact key (hi - lo) lo _ _ ls (by omega) (Nat.le_refl _) (by rw [fillF_0]; exact hP) (by rw [fillF_0]; exact hD) hS (lv_sub hl [1, 2, 3, 4, 0] rfl)
