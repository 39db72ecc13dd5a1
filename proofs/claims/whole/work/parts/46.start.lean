/-! THE LAW'S START -/
section START
variable {s : State} {args : Array Value}
set_option maxRecDepth 100000 in
theorem st_Z (hts : ∀ w ∈ lw_tbl, w.before args s = true) (hgv : (Jvm.Cond.and given_1 narrow_1).before args s = true) : gv_Z (lwA s) s s.heap := by
  have hs := flat_of_before _ hgv
  exact ⟨vx_Zqof (hts (.laysStatic "java/lang/Throwable" "UNASSIGNED_STACK" "[Ljava/lang/StackTraceElement;") (by decide +kernel)) (hts (.initialized "java/lang/Throwable") (by decide +kernel)) (hs (.isRef (.static "java/lang/Throwable" "UNASSIGNED_STACK" "[Ljava/lang/StackTraceElement;")) (by decide +kernel)) (fun a ha => Nat.not_le.mpr ha),
    vx_Zqof (hts (.laysStatic "java/lang/Throwable" "SUPPRESSED_SENTINEL" "Ljava/util/List;") (by decide +kernel)) (hts (.initialized "java/lang/Throwable") (by decide +kernel)) (hs (.isRef (.static "java/lang/Throwable" "SUPPRESSED_SENTINEL" "Ljava/util/List;")) (by decide +kernel)) (fun a ha => Nat.not_le.mpr ha)⟩
set_option maxRecDepth 100000 in
theorem st_T (hts : ∀ w ∈ lw_tbl, w.before args s = true) (hgv : (Jvm.Cond.and given_1 narrow_1).before args s = true) : gv_T s := by
  have hs := flat_of_before _ hgv
  refine ⟨fun w hw => ?_, fun q hq => ?_, va_Nc.of (hs (.not (.castable xIA xNS)) (by decide +kernel))⟩
  · have h1 : ∀ w ∈ gvB, w ∈ lw_tbl := by decide +kernel
    have h2 : w.onTables = true := by
      simp only [gvB, List.mem_cons, List.not_mem_nil, or_false] at hw
      rcases hw with rfl | rfl | rfl | rfl | rfl | rfl <;> rfl
    exact va_Nw.of h2 (hts w (h1 w hw))
  · simp only [gvS, List.mem_cons, List.not_mem_nil, or_false] at hq
    rcases hq with rfl | rfl | rfl | rfl | rfl | rfl | rfl | rfl | rfl | rfl
    · obtain ⟨a, c, cA, kA, q1, -⟩ := Cond.exactly_spec (args := args) (first := s) (o := none) (s := s) (idx := []) (t := .string "NurseryRow" 40) (cls := "java/lang/String") (hs (.exactly (.string "NurseryRow" 40) "java/lang/String") (by decide +kernel))
      exact ⟨a, vk_R.of (hts (.stringRef "NurseryRow" 40 "no such sizes") (by decide +kernel)) q1⟩
    · obtain ⟨a, c, cA, kA, q1, -⟩ := Cond.exactly_spec (args := args) (first := s) (o := none) (s := s) (idx := []) (t := .string "NurseryRow" 70) (cls := "java/lang/String") (hs (.exactly (.string "NurseryRow" 70) "java/lang/String") (by decide +kernel))
      exact ⟨a, vk_R.of (hts (.stringRef "NurseryRow" 70 "no such limit") (by decide +kernel)) q1⟩
    · obtain ⟨a, c, cA, kA, q1, -⟩ := Cond.exactly_spec (args := args) (first := s) (o := none) (s := s) (idx := []) (t := .string "NurseryRow" 72) (cls := "java/lang/String") (hs (.exactly (.string "NurseryRow" 72) "java/lang/String") (by decide +kernel))
      exact ⟨a, vk_R.of (hts (.stringRef "NurseryRow" 72 "no such object") (by decide +kernel)) q1⟩
    · obtain ⟨a, c, cA, kA, q1, -⟩ := Cond.exactly_spec (args := args) (first := s) (o := none) (s := s) (idx := []) (t := .string "NurseryRow" 94) (cls := "java/lang/String") (hs (.exactly (.string "NurseryRow" 94) "java/lang/String") (by decide +kernel))
      exact ⟨a, vk_R.of (hts (.stringRef "NurseryRow" 94 "no such object or field") (by decide +kernel)) q1⟩
    · obtain ⟨a, c, cA, kA, q1, -⟩ := Cond.exactly_spec (args := args) (first := s) (o := none) (s := s) (idx := []) (t := .string "NurseryRow" 103) (cls := "java/lang/String") (hs (.exactly (.string "NurseryRow" 103) "java/lang/String") (by decide +kernel))
      exact ⟨a, vk_R.of (hts (.stringRef "NurseryRow" 103 "no such object or word") (by decide +kernel)) q1⟩
    · obtain ⟨a, c, cA, kA, q1, -⟩ := Cond.exactly_spec (args := args) (first := s) (o := none) (s := s) (idx := []) (t := .string "NurseryRow" 108) (cls := "java/lang/String") (hs (.exactly (.string "NurseryRow" 108) "java/lang/String") (by decide +kernel))
      exact ⟨a, vk_R.of (hts (.stringRef "NurseryRow" 108 "no such root or object") (by decide +kernel)) q1⟩
    · obtain ⟨a, c, cA, kA, q1, -⟩ := Cond.exactly_spec (args := args) (first := s) (o := none) (s := s) (idx := []) (t := .string "NurseryRow" 110) (cls := "java/lang/String") (hs (.exactly (.string "NurseryRow" 110) "java/lang/String") (by decide +kernel))
      exact ⟨a, vk_R.of (hts (.stringRef "NurseryRow" 110 "no such root") (by decide +kernel)) q1⟩
    · obtain ⟨a, c, cA, kA, q1, -⟩ := Cond.exactly_spec (args := args) (first := s) (o := none) (s := s) (idx := []) (t := .string "NurseryRow" 117) (cls := "java/lang/String") (hs (.exactly (.string "NurseryRow" 117) "java/lang/String") (by decide +kernel))
      exact ⟨a, vk_R.of (hts (.stringRef "NurseryRow" 117 "OLD has too little room") (by decide +kernel)) q1⟩
    · obtain ⟨a, c, cA, kA, q1, -⟩ := Cond.exactly_spec (args := args) (first := s) (o := none) (s := s) (idx := []) (t := .string "NurseryRow" 145) (cls := "java/lang/String") (hs (.exactly (.string "NurseryRow" 145) "java/lang/String") (by decide +kernel))
      exact ⟨a, vk_R.of (hts (.stringRef "NurseryRow" 145 "nothing of that kind is told") (by decide +kernel)) q1⟩
    · obtain ⟨a, c, cA, kA, q1, -⟩ := Cond.exactly_spec (args := args) (first := s) (o := none) (s := s) (idx := []) (t := .string "NurseryRow" 156) (cls := "java/lang/String") (hs (.exactly (.string "NurseryRow" 156) "java/lang/String") (by decide +kernel))
      exact ⟨a, vk_R.of (hts (.stringRef "NurseryRow" 156 "nothing of that kind is counted") (by decide +kernel)) q1⟩
end START
theorem gx_cwI {R : Room} {s : State} {args : Array Value} {own : String} {index maxL n : Nat} {y : MethodName} {bytes : ByteArray} {ret : Option FieldType} {rm : Room} {x : Cond} (hts : ∀ w ∈ x :: gW, w.before args s = true) {C : String} (hl : Cond.methodLink own index y ∈ gW) (hc : Cond.code y bytes maxL ret ∈ gW) (hi : Cond.instanceMethod y ∈ gW) (hz : Cond.initialized C ∈ gW)
    (hd : y.cls = C ∧ y.cls ≠ "java/lang/invoke/MethodHandle" ∧ y.cls ≠ "java/lang/invoke/VarHandle" ∧ (parseMethodDescriptor y.desc).map (fun d => d.parameters.length) = some n) (hn : y.name = "<init>") (hR : rm.frames + 1 ≤ R.frames ∧ 8 + (maxL + 11) + rm.locals ≤ R.locals) :
    CallB R s args own index y bytes maxL ret (.code y bytes maxL ret :: gW) rm rm.cells rm.slots n ∧ y.name = "<init>" ∧ (Cond.instanceMethod y).before args s = true := by
  have g : ∀ w ∈ gW, w.before args s = true := fun w h => hts w (List.mem_cons_of_mem _ h)
  refine ⟨callB_of n hts (fun w h => ?_) rfl rfl rfl (by rw [hd.1]; exact g _ hz) (g _ hl) hd.2 hR, hn, g _ hi⟩
  rcases List.mem_cons.mp h with h | h
  · rw [h]; exact gm_self _ hc
  · exact gm_self _ h
set_option maxHeartbeats 4000000 in
set_option maxRecDepth 100000 in
/-- THE LAW, from its entry -/
theorem whole_start {p : Program} {e : Env} {s : State} {m : MethodId} {below : List Frame} {meth : Method} {c : Code} (l : Launch) (hfl : l.stackTraces = false) {b L : Nat} {xs : Nat → Int32} (hL : L ≤ 2048) (C0 : lw_At p s m meth c b L xs) : W p l e room_1 s m #[Value.ref b] below meth c s.heap [] 0 0 (lw_Z below #[Value.ref b] s) (entryFrame m ([Value.ref b] : List Value).toArray 7) := by
  obtain ⟨hx, hb, hr, hml, hown, hts, hX, hbl, hlocks, hgv⟩ := id C0
  have hg : ∀ w ∈ gW, w.before #[Value.ref b] s = true := fun w h => hts w (List.mem_filter.mp h).1
  have hZ := st_Z hts hgv
  have hT := st_T hts hgv
  have hAO : va_AO "NurseryRow$Part" s := va_AO.of (hts (.arrayOver (.object "NurseryRow$Part")) (by decide +kernel))
  have hNw : va_Nw (.methodLinkNest "NurseryRow" 15 yPt_init "NurseryRow") s := va_Nw.of rfl (hts (.methodLinkNest "NurseryRow" 15 yPt_init "NurseryRow") (by decide +kernel))
  have hts2 : ∀ w ∈ Cond.initialized "NurseryRow" :: gW, w.before #[Value.ref b] s = true := fun w h => (List.mem_cons.mp h).elim (fun e => by rw [e]; exact hg _ z_Nr) (hg w)
  have E : gx_E p s m #[Value.ref b] meth c code ret 7 (Cond.initialized "NurseryRow" :: gW) ⟨"NurseryRowLaw", meth.name, ""⟩ := ⟨hx, hb, hr, hml, hts2, hown, hlocks, rfl⟩
  have hown : s.vm.findClass "NurseryRowLaw" = some m.cls := hown
  have hA : ∀ q : Nat, s.heap.size ≤ q → lwA s q := fun _ h => h
  obtain ⟨e0, iS0, hKn0⟩ := u_known (C := RPt) (T := TPt) (N := 4) (n := 4) hg inPt (hg _ kn_Pt)
  obtain ⟨e1, iS1, hKn1⟩ := u_known (C := RNr) (T := TNr) (N := 10) (n := 10) hg inNr (hg _ kn_Nr)
  obtain ⟨e2, iS2, hKn2⟩ := u_known (C := RMd) (T := TMd) (N := 25) (n := 25) hg inMd (hg _ kn_Md)
  obtain ⟨D, hKc⟩ : ∃ D : va_G, ∀ (k : Nat) (q : vw_C), gC[k]? = some q → u_Kn s q.1 q.2.1 q.2.2 (D.1 k) (D.2 k) := by
    refine ⟨(fun k => if k = 0 then e0 else if k = 1 then e1 else e2, fun k => if k = 0 then iS0 else if k = 1 then iS1 else iS2), ?_⟩
    intro k q hq
    match k, hq with
    | 0, hq => cases hq; exact hKn0
    | 1, hq => cases hq; exact hKn1
    | 2, hq => cases hq; exact hKn2
    | k + 3, hq => simp [gC] at hq
  have hS : va_S (lwA s) s.heap s.heap [] := va_S.rf
  have hK : va_K D gC [] s := ⟨hKc, fun k q h => by simp at h⟩
  have hP : va_P D gC [] s.heap := fun k q h => by simp at h
  have hD : va_D (lwA s) [] := ⟨fun i j p q h => by simp at h, fun k q h => by simp at h⟩
  have hl := lv_entry ([.ref b]) (n := 7) (Nat.le_of_ble_eq_true rfl)
  rw [lg_entry_eq]
  generalize (lg_sl ([.ref b]) ++ List.replicate (7 - (lg_sl ([.ref b])).length) Slot.unset).toArray = ls at hl ⊢
  have hl : lv_has ls 7 [(0, .ref b)] := hl
  -- the class
  refine va_new (C := RNr) (T := TNr) (N := 10) (ci := 1) (fs := [.null, .null, .null, .null, .int 0, .int 0, .int 0, .int 0, .int 0, .int 0]) hx hb hg inNr tyNr tyNr_ok hown (hg _ kl_Lw_8) (hg _ kn_Nr) (hg _ z_Nr) hK hP hD hS hA rfl (fun j hj => by rcases (show j = 0 ∨ j = 1 ∨ j = 2 ∨ j = 3 ∨ j = 4 ∨ j = 5 ∨ j = 6 ∨ j = 7 ∨ j = 8 ∨ j = 9 by omega) with rfl | rfl | rfl | rfl | rfl | rfl | rfl | rfl | rfl | rfl <;> rfl) (by decide) (by decide) dlaw_0 (fun q0 H hP hD hS => ?_)
  have hP : va_P D gC [(q0, .inr (1, [.null, .null, .null, .null, .int 0, .int 0, .int 0, .int 0, .int 0, .int 0]))] H := hP
  have hD : va_D (lwA s) [(q0, .inr (1, [.null, .null, .null, .null, .int 0, .int 0, .int 0, .int 0, .int 0, .int 0]))] := hD
  refine W.widen (k := 1) (n := 10) (by decide) (by decide) ?_
  refine lv_dup hx hb dlaw_3 rfl ?_
  have hFc := va_free (wc := [(q0, .inr (1, [.null, .null, .null, .null, .int 0, .int 0, .int 0, .int 0, .int 0, .int 0]))]) hD hS hA [0] rfl
  refine va_callv (va_runI (As := []) (rest := [.ref q0]) ⟨hx, hb, hml, hown, hts2⟩ (qNr_init l D q0 H.size) (gx_cwI hts2 l_Lw_58 k_Nr_init ki_Nr_init z_Nr n_Nr_init rfl ⟨by decide, by decide⟩) ⟨fun a U g mk q => ⟨q.1, ⟨q.2.1.1, q.2.1.2.1, va_K.moved (u := U) (U := U.calling g mk a) (Vm.Alike.refl U.vm) q.2.1.2.2.1, q.2.1.2.2.2⟩, va_AO.moved (u := U) (U := U.calling g mk a) (Vm.Alike.refl U.vm) q.2.2.1, va_Nw.warmM (s := U) (U := U.calling g mk a) (State.WarmedH.refl U) q.2.2.2⟩, fun U hU hW => ⟨rfl, ⟨by rw [hU], by rw [hU]; exact hP, va_K.moved hW.alike hK, hD.weaken (fun _ _ _ _ => trivial)⟩, va_AO.moved hW.alike hAO, va_Nw.warmM hW hNw⟩⟩ rfl rfl hl.1 rfl (lv_room (Nat.le_of_ble_eq_true rfl)) dlaw_4 ⟨by decide, by decide⟩) hS (fun q _ h => hFc q h) hFc (fun u t H1 locs ht hvm hw hB hz1 hk1 hS => ?_)
  obtain ⟨cI, cP, a, σ⟩ := u
  obtain ⟨hP1, hK1, hD1⟩ := hB
  rw [ht] at hP1
  have hK1 : va_K D gC (nrT cI cP) s := va_K.moved hvm.symm hK1
  have hw1 : a 0 = q0 := hw.1
  have hw2 : σ = nrS0 σ.hx := hw.2
  subst hw1
  obtain ⟨hP, hD⟩ := va_join (wr := []) (w1 := nrW cI cP a σ) hP hD [0] [] rfl rfl (by decide) (by decide) hk1 hFc hP1 hD1
  generalize H1 = H at hP hS ⊢
  have hP : va_P D gC (nrW cI cP a σ) H := hP
  have hD : va_D (lwA s) (nrW cI cP a σ) := hD
  refine W.widen (k := 9) (n := 2991) (by decide) (by decide) ?_
  refine lv_astore_n (lv' := [(1, .ref (a 0)), (0, .ref b)]) hx hb dlaw_7 rfl hl (by decide) rfl (fun ls hl => ?_)
  -- the reference
  refine va_new (C := RMd) (T := TMd) (N := 25) (ci := 2) (fs := [.int 0, .null, .null, .null, .int 0, .int 0, .null, .null, .null, .null, .null, .null, .null, .int 0, .null, .null, .int 0, .null, .int 0, .null, .null, .null, .int 0, .int 0, .int 0]) hx hb hg inMd tyMd tyMd_ok hown (hg _ kl_Lw_59) (hg _ kn_Md) (hg _ z_Md) hK hP hD hS hA rfl (fun j hj => by rcases (show j = 0 ∨ j = 1 ∨ j = 2 ∨ j = 3 ∨ j = 4 ∨ j = 5 ∨ j = 6 ∨ j = 7 ∨ j = 8 ∨ j = 9 ∨ j = 10 ∨ j = 11 ∨ j = 12 ∨ j = 13 ∨ j = 14 ∨ j = 15 ∨ j = 16 ∨ j = 17 ∨ j = 18 ∨ j = 19 ∨ j = 20 ∨ j = 21 ∨ j = 22 ∨ j = 23 ∨ j = 24 by omega) with rfl | rfl | rfl | rfl | rfl | rfl | rfl | rfl | rfl | rfl | rfl | rfl | rfl | rfl | rfl | rfl | rfl | rfl | rfl | rfl | rfl | rfl | rfl | rfl | rfl <;> rfl) (by decide) (by decide) dlaw_8 (fun q1 H hP hD hS => ?_)
  have hP : va_P D gC (nrW cI cP a σ ++ mdC0 q1) H := hP
  have hD : va_D (lwA s) (nrW cI cP a σ ++ mdC0 q1) := hD
  refine W.widen (k := 10) (n := 3016) (by decide) (by decide) ?_
  refine lv_dup hx hb dlaw_11 rfl ?_
  have hPc : va_P D gC (mdC0 q1) H := hP.sub [9] rfl
  have hDc : va_D (lwA s) (mdC0 q1) := hD.sub [9] rfl rfl
  have hFc := va_free (wc := mdC0 q1) hD hS hA [9] rfl
  refine va_callv (va_runI (As := []) (rest := [.ref q1]) ⟨hx, hb, hml, hown, hts2⟩ (qMd_init l D q1 H.size) (gx_cwI hts2 l_Lw_61 k_Md_init ki_Md_init z_Md n_Md_init rfl ⟨by decide, by decide⟩) ⟨fun a U g mk q => ⟨q.1, q.2.1, q.2.2.1, va_K.moved (u := U) (U := U.calling g mk a) (Vm.Alike.refl U.vm) q.2.2.2.1, q.2.2.2.2⟩, fun U hU hW => ⟨rfl, by rw [hU], by rw [hU]; exact hPc, va_K.moved hW.alike hK, hDc.weaken (fun _ _ _ _ => trivial)⟩⟩ rfl rfl hl.1 rfl (lv_room (Nat.le_of_ble_eq_true rfl)) dlaw_12 ⟨by decide, by decide⟩) hS (fun q _ h => hFc q h) hFc (fun u t H1 locs ht hvm hw hB hz1 hk1 hS => ?_)
  obtain ⟨cJ, cZ, b', μ⟩ := u
  obtain ⟨hP1, hK2, hD1⟩ := hB
  rw [ht] at hP1
  have hK2 : va_K D gC (mdT cJ cZ) s := va_K.moved hvm.symm hK2
  have hw3 : b' 0 = q1 := hw.1
  have hw4 : μ = mdS0 := hw.2
  subst hw3
  obtain ⟨hP, hD⟩ := va_join (wr := nrW cI cP a σ) (w1 := mdW cJ cZ b' μ) hP hD [9] [0, 1, 2, 3, 4, 5, 6, 7, 8] rfl rfl (by decide) (by decide) hk1 hFc hP1 hD1
  generalize H1 = H at hP hS ⊢
  have hP : va_P D gC (nrW cI cP a σ ++ mdW cJ cZ b' μ) H := hP
  have hD : va_D (lwA s) (nrW cI cP a σ ++ mdW cJ cZ b' μ) := hD
  have hK3 : va_K D gC (nrT cI cP ++ mdT cJ cZ) s := hK1.app hK2
  refine W.widen (k := 26) (n := 87044) (by decide) (by decide) ?_
  refine lv_astore_n (lv' := [(2, .ref (b' 0)), (1, .ref (a 0)), (0, .ref b)]) hx hb dlaw_15 rfl hl (by decide) rfl (fun ls hl => ?_)
  -- the long
  refine lv_iconst (v := 1) hx hb dlaw_16 (by decide) ?_
  refine va_newa (atype := .long) (ty := .long) (N' := 1) (a0 := (1, .inr (.inl (fun _ => 0)))) hx hb (hg _ ka_long) rfl hK3 hP hD hS hA (fun _ => rfl) (by decide) (by decide) (by decide) (by decide) (by decide) dlaw_17 (fun ho cL H hK4 hP hD hS => ?_)
  have hP : va_P D gC (lwW cI cP cL cJ cZ a ho b' (σ, fun _ => 0, μ)) H := hP.sub [0, 1, 2, 3, 4, 5, 6, 7, 8, 26, 9, 10, 11, 12, 13, 14, 15, 16, 17, 18, 19, 20, 21, 22, 23, 24, 25] rfl
  have hD : va_D (lwA s) (lwW cI cP cL cJ cZ a ho b' (σ, fun _ => 0, μ)) := hD.sub [0, 1, 2, 3, 4, 5, 6, 7, 8, 26, 9, 10, 11, 12, 13, 14, 15, 16, 17, 18, 19, 20, 21, 22, 23, 24, 25] rfl rfl
  have hK5 : va_K D gC (lwT cI cP cL cJ cZ) s := hK4.sub [0, 1, 4, 2, 3] rfl
  refine W.widen (k := 27) (n := 87045) (by decide) (by decide) ?_
  refine lv_astore_n (lv' := [(3, .ref ho), (2, .ref (b' 0)), (1, .ref (a 0)), (0, .ref b)]) hx hb dlaw_19 rfl hl (by decide) rfl (fun ls hl => ?_)
  refine lv_iconst (v := 0) hx hb dlaw_20 (by decide) ?_
  refine lv_istore (lv' := [(4, .int 0), (3, .ref ho), (2, .ref (b' 0)), (1, .ref (a 0)), (0, .ref b)]) hx hb dlaw_21 hl (by decide) rfl (fun ls hl => ?_)
  have hl : lv_has ls 7 [(4, .int (nI (4 * 0))), (3, .ref ho), (2, .ref (b' 0)), (1, .ref (a 0)), (0, .ref b)] := hl
  exact law_loop ⟨E, hX, hbl, hZ, hT, hK5⟩ hfl hL 513 0 σ (fun _ => 0) μ H _ ls rfl (Nat.zero_le _) (by rw [hw2, hw4]; exact sim_start _) hP hD hS (lv_sub hl [4, 3, 2, 1, 0] rfl)
