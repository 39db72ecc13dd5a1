/-! THE PUBLIC METHODS: space, collect; the cells' growing -/
set_option maxHeartbeats 4000000 in
set_option maxRecDepth 100000 in
/-- the cells grow, if they must -/
theorem qNr_growCells (l : Launch) (D : va_G) (cI cP : ClassId) (a : Nat → Nat) (σ : nSt) : gx_Mv l yNr_growCells (Cond.code yNr_growCells cNr_growCells 1 none :: gW) (gRc 1 1 10241) D gC (nrT cI cP) (nrW cI cP a) σ [.ref (a 0)] (fun u => grow σ u) := by
  refine gx_Mv.of (cc := cNr_growCells) (maxL := 1) (by decide) rfl (Nat.le_of_ble_eq_true rfl) ?_
  intro p e s m args below meth c ls A E hA hK hP hD hS hl
  obtain ⟨hx, hb, hr, hml, hts, hown, hlocks, hnm⟩ := id E
  have hg : ∀ w ∈ gW, w.before args s = true := fun w h => hts w (List.mem_cons_of_mem _ h)
  have hown : s.vm.findClass "NurseryRow" = some m.cls := hown
  have hl : lv_has ls 1 [(0, .ref (a 0))] := hl
  refine lv_aload_n hx hb dNr_growCells_0 rfl (lv_at hl 0 rfl) ?_
  refine va_get (C := RNr) (T := TNr) (N := 10) (ci := 1) (v := .ref σ.hx) hx hb hg inNr hown hK hP 0 rfl rfl 3 (by decide) (hg _ f_Nr_23) (fun _ h9 => h9) rfl dNr_growCells_1 ?_
  refine va_alen (v := nI σ.N) hx hb hK hP 8 0 rfl rfl rfl dNr_growCells_4 ?_
  refine lv_aload_n hx hb dNr_growCells_5 rfl (lv_at hl 0 rfl) ?_
  refine gx_callp (C := "NurseryRow") (As := []) (rest := [.int (nI σ.N)]) E (qNr_allCells l D cI cP a σ) (gx_cwV hts l_Nr_45 k_Nr_allCells ki_Nr_allCells ke_Nr_allCells z_Nr n_Nr_allCells ⟨by decide, by decide⟩) hK hP hD (va_recv hK hP (ci := 1) (q0 := 0) rfl rfl) hl.1 rfl rfl (Nat.le_of_ble_eq_true rfl) ⟨Nat.zero_le _, Nat.zero_le _⟩ dNr_growCells_6 ?_
  refine lv_icmp_gt (tgt := 21) hx hb dNr_growCells_9 (by decide) (fun c_9 => ?_) (fun c_9 => ?_)
  · refine W.widen (k := 1) (n := 10241) (by decide) (by decide) ?_
    exact gx_vret (u := σ) E hK hP hD hS (Or.inl ⟨c_9, rfl⟩) dNr_growCells_21
  · refine lv_aload_n hx hb dNr_growCells_12 rfl (lv_at hl 0 rfl) ?_
    refine lv_sipush (v := 10241) hx hb dNr_growCells_13 (by decide) ?_
    refine va_newa (atype := .int) (ty := .int) (N' := 10241) (a0 := (10241, .inl (fun _ => 0))) hx hb (hg _ ka_int) rfl hK hP hD hS hA (fun _ => rfl) (by decide) (by decide) (by decide) (by decide) (by decide) dNr_growCells_16 (fun q cA H hK2 hP hD hS => ?_)
    have hcA := gx_same (i := 0) (j := 2) hK2 rfl rfl
    subst hcA
    refine va_put (C := RNr) (T := TNr) (N := 10) (ci := 1) (v := .ref q) hx hb hg inNr tyNr tyNr_ok nmNr hown hK hP hD hS 0 rfl rfl 3 (by decide) (hg _ f_Nr_23) (fun _ h9 => h9) rfl (tyNr_ok 3 (by decide)) rfl rfl (Nat.le_of_ble_eq_true rfl) dNr_growCells_18 (fun H locs hP hD hS => ?_)
    have hP : va_P D gC (nrW cA cP a (σ.sN 10241 q (fun _ => 0))) H := hP.sub [0, 1, 2, 3, 4, 5, 6, 7, 9] rfl
    have hD : va_D A (nrW cA cP a (σ.sN 10241 q (fun _ => 0))) := hD.sub [0, 1, 2, 3, 4, 5, 6, 7, 9] (by decide) rfl
    exact gx_vret (u := σ.sN 10241 q (fun _ => 0)) E hK hP hD hS (Or.inr ⟨c_9, q, rfl⟩) dNr_growCells_21
set_option maxHeartbeats 4000000 in
set_option maxRecDepth 100000 in
/-- sizes -/
theorem qNr_space (l : Launch) (hfl : l.stackTraces = false) (D : va_G) (cI cP : ClassId) (a : Nat → Nat) (σ : nSt) (x : Int32) (y : Int32) (z : Int32) : gv_M l yNr_space (Cond.code yNr_space cNr_space 5 (some .int) :: gW) (gRc 8 1 10241) D gC (nrT cI cP) (nrW cI cP a) σ [.ref (a 0), .int x, .int y, .int z] (fun r u => (¬ isW x 16 1024 = 0 ∧ ¬ isW y 0 512 = 0 ∧ ¬ isW z 64 8192 = 0) ∧ r = allC σ ∧ ∃ v, grow (laid σ x y z) v ∧ u = ((((v.sR (fillF v.R 0 16 0)).sF 2 0).sF 3 0).sF 4 0).sF 5 0) (fun E => E = xIA ∧ (isW x 16 1024 = 0 ∨ isW y 0 512 = 0 ∨ isW z 64 8192 = 0)) := by
  refine gv_M.of (cc := cNr_space) (maxL := 5) (ret := (some .int)) (by decide) rfl (Nat.le_of_ble_eq_true rfl) ?_
  intro p e s m args below meth c ls A E hex hZ hT hA hK hP hD hS hl
  obtain ⟨hx, hb, hr, hml, hts, hown, hlocks, hnm⟩ := id E
  have hg : ∀ w ∈ gW, w.before args s = true := fun w h => hts w (List.mem_cons_of_mem _ h)
  have hown : s.vm.findClass "NurseryRow" = some m.cls := hown
  have hl : lv_has ls 5 [(0, .ref (a 0)), (1, .int x), (2, .int y), (3, .int z)] := hl
  refine lv_iload_n hx hb dNr_space_0 rfl (lv_at hl 1 rfl) ?_
  refine lv_bipush (v := 16) hx hb dNr_space_1 (by decide) ?_
  refine lv_sipush (v := 1024) hx hb dNr_space_3 (by decide) ?_
  refine gx_callps (As := [.int x, .int 16, .int 1024]) (rest := []) E (qNr_isWithin l D _ _ x 16 1024) (gx_cwS hts l_Nr_34 k_Nr_isWithin kt_Nr_isWithin z_Nr n_Nr_isWithin ⟨by decide, by decide⟩) hK hP hD hl.1 rfl rfl (Nat.le_of_ble_eq_true rfl) ⟨Nat.zero_le _, Nat.zero_le _⟩ dNr_space_6 ?_
  refine lv_if_eq (tgt := 35) hx hb dNr_space_9 (by decide) (fun c_9 => ?_) (fun c_9 => ?_)
  · exact gv_throw (X := xIA) (tx := "no such sizes") (is := 40) (ix := 7) (rx := rxIA) E rfl hfl hex hZ hT hK hP hD hS hl.1 rIA0 rIA1 rIA2 rIA5 (by decide) kl_Nr_38 z_IllegalArgumentException (by decide) gx_IA gy_IA go_IA ⟨rfl, Or.inl c_9⟩ (by decide) (by decide) (by decide) (by decide) (by decide) (by decide) dNr_space_35 dNr_space_38 dNr_space_39 dNr_space_41 dNr_space_44
  · refine lv_iload_n hx hb dNr_space_12 rfl (lv_at hl 2 rfl) ?_
    refine lv_iconst (v := 0) hx hb dNr_space_13 (by decide) ?_
    refine lv_sipush (v := 512) hx hb dNr_space_14 (by decide) ?_
    refine gx_callps (As := [.int y, .int 0, .int 512]) (rest := []) E (qNr_isWithin l D _ _ y 0 512) (gx_cwS hts l_Nr_34 k_Nr_isWithin kt_Nr_isWithin z_Nr n_Nr_isWithin ⟨by decide, by decide⟩) hK hP hD hl.1 rfl rfl (Nat.le_of_ble_eq_true rfl) ⟨Nat.zero_le _, Nat.zero_le _⟩ dNr_space_17 ?_
    refine lv_if_eq (tgt := 35) hx hb dNr_space_20 (by decide) (fun c_20 => ?_) (fun c_20 => ?_)
    · exact gv_throw (X := xIA) (tx := "no such sizes") (is := 40) (ix := 7) (rx := rxIA) E rfl hfl hex hZ hT hK hP hD hS hl.1 rIA0 rIA1 rIA2 rIA5 (by decide) kl_Nr_38 z_IllegalArgumentException (by decide) gx_IA gy_IA go_IA ⟨rfl, Or.inr (Or.inl c_20)⟩ (by decide) (by decide) (by decide) (by decide) (by decide) (by decide) dNr_space_35 dNr_space_38 dNr_space_39 dNr_space_41 dNr_space_44
    · refine lv_iload_n hx hb dNr_space_23 rfl (lv_at hl 3 rfl) ?_
      refine lv_bipush (v := 64) hx hb dNr_space_24 (by decide) ?_
      refine lv_sipush (v := 8192) hx hb dNr_space_26 (by decide) ?_
      refine gx_callps (As := [.int z, .int 64, .int 8192]) (rest := []) E (qNr_isWithin l D _ _ z 64 8192) (gx_cwS hts l_Nr_34 k_Nr_isWithin kt_Nr_isWithin z_Nr n_Nr_isWithin ⟨by decide, by decide⟩) hK hP hD hl.1 rfl rfl (Nat.le_of_ble_eq_true rfl) ⟨Nat.zero_le _, Nat.zero_le _⟩ dNr_space_29 ?_
      refine lv_if_ne (tgt := 45) hx hb dNr_space_32 (by decide) (fun c_32 => ?_) (fun c_32 => ?_)
      · refine lv_aload_n hx hb dNr_space_45 rfl (lv_at hl 0 rfl) ?_
        refine gx_callp (C := "NurseryRow") (As := []) (rest := []) E (qNr_allCells l D cI cP a σ) (gx_cwV hts l_Nr_45 k_Nr_allCells ki_Nr_allCells ke_Nr_allCells z_Nr n_Nr_allCells ⟨by decide, by decide⟩) hK hP hD (va_recv hK hP (ci := 1) (q0 := 0) rfl rfl) hl.1 rfl rfl (Nat.le_of_ble_eq_true rfl) ⟨Nat.zero_le _, Nat.zero_le _⟩ dNr_space_46 ?_
        refine lv_istore (lv' := [(4, .int (0 + σ.P 0 1 + σ.P 1 1 + σ.P 2 1 + σ.P 3 1)), (0, .ref (a 0)), (1, .int x), (2, .int y), (3, .int z)]) hx hb dNr_space_49 hl (by decide) rfl (fun ls hl => ?_)
        refine lv_aload_n hx hb dNr_space_51 rfl (lv_at hl 1 rfl) ?_
        refine lv_iload_n hx hb dNr_space_52 rfl (lv_at hl 2 rfl) ?_
        refine lv_iload_n hx hb dNr_space_53 rfl (lv_at hl 3 rfl) ?_
        refine lv_iload_n hx hb dNr_space_54 rfl (lv_at hl 4 rfl) ?_
        refine gx_callv (C := "NurseryRow") (As := [.int x, .int y, .int z]) (rest := []) E (qNr_layParts l D cI cP a σ x y z) (gx_cwV hts l_Nr_30 k_Nr_layParts ki_Nr_layParts ke_Nr_layParts z_Nr n_Nr_layParts ⟨by decide, by decide⟩) hK hP hD hS hA (va_recv hK hP (ci := 1) (q0 := 0) rfl rfl) hl.1 rfl rfl (Nat.le_of_ble_eq_true rfl) ⟨by decide, by decide⟩ dNr_space_55 (fun u_2 H locs hq_3 hP hD hS => ?_)
        have hq_3 : u_2 = laid σ x y z := hq_3
        subst hq_3
        have hP : va_P D gC (nrW cI cP a (laid σ x y z)) H := hP
        have hD : va_D A (nrW cI cP a (laid σ x y z)) := hD
        refine lv_aload_n hx hb dNr_space_58 rfl (lv_at hl 1 rfl) ?_
        refine gx_callv (C := "NurseryRow") (As := []) (rest := []) E (qNr_growCells l D cI cP a (laid σ x y z)) (gx_cwV hts l_Nr_49 k_Nr_growCells ki_Nr_growCells ke_Nr_growCells z_Nr n_Nr_growCells ⟨by decide, by decide⟩) hK hP hD hS hA (va_recv hK hP (ci := 1) (q0 := 0) rfl rfl) hl.1 rfl rfl (Nat.le_of_ble_eq_true rfl) ⟨by decide, by decide⟩ dNr_space_59 (fun u_5 H locs hq_6 hP hD hS => ?_)
        refine lv_aload_n hx hb dNr_space_62 rfl (lv_at hl 1 rfl) ?_
        refine va_get (C := RNr) (T := TNr) (N := 10) (ci := 1) (v := .ref (a 6)) hx hb hg inNr hown hK hP 0 rfl rfl 1 (by decide) (hg _ f_Nr_16) (fun _ h9 => h9) rfl dNr_space_63 ?_
        refine lv_iconst (v := 0) hx hb dNr_space_66 (by decide) ?_
        refine gx_callvs (As := [.ref (a 6), .int 0]) (rest := []) E (nr_fillR 0) (gx_cwS hts l_Nr_52 k_Ar_fill2 kt_Ar_fill2 z_Ar n_Ar_fill2 ⟨by decide, by decide⟩) hK hP hD hS hA hl.1 rfl rfl (by decide) ⟨by decide, by decide⟩ dNr_space_67 (fun u_7 H locs hq_8 hP hD hS => ?_)
        subst hq_8
        have hP : va_P D gC (nrW cI cP a (u_5.sR (fillF u_5.R 0 16 0))) H := hP
        have hD : va_D A (nrW cI cP a (u_5.sR (fillF u_5.R 0 16 0))) := hD
        refine lv_aload_n hx hb dNr_space_70 rfl (lv_at hl 1 rfl) ?_
        refine lv_iconst (v := 0) hx hb dNr_space_71 (by decide) ?_
        refine va_put (C := RNr) (T := TNr) (N := 10) (ci := 1) (v := .int 0) hx hb hg inNr tyNr tyNr_ok nmNr hown hK hP hD hS 0 rfl rfl 6 (by decide) (hg _ f_Nr_58) (fun _ h9 => h9) rfl (tyNr_ok 6 (by decide)) rfl rfl (Nat.le_of_ble_eq_true rfl) dNr_space_72 (fun H locs hP hD hS => ?_)
        have hP : va_P D gC (nrW cI cP a ((u_5.sR (fillF u_5.R 0 16 0)).sF 2 0)) H := hP
        have hD : va_D A (nrW cI cP a ((u_5.sR (fillF u_5.R 0 16 0)).sF 2 0)) := hD
        refine lv_aload_n hx hb dNr_space_75 rfl (lv_at hl 1 rfl) ?_
        refine lv_iconst (v := 0) hx hb dNr_space_76 (by decide) ?_
        refine va_put (C := RNr) (T := TNr) (N := 10) (ci := 1) (v := .int 0) hx hb hg inNr tyNr tyNr_ok nmNr hown hK hP hD hS 0 rfl rfl 7 (by decide) (hg _ f_Nr_61) (fun _ h9 => h9) rfl (tyNr_ok 7 (by decide)) rfl rfl (Nat.le_of_ble_eq_true rfl) dNr_space_77 (fun H locs hP hD hS => ?_)
        have hP : va_P D gC (nrW cI cP a (((u_5.sR (fillF u_5.R 0 16 0)).sF 2 0).sF 3 0)) H := hP
        have hD : va_D A (nrW cI cP a (((u_5.sR (fillF u_5.R 0 16 0)).sF 2 0).sF 3 0)) := hD
        refine lv_aload_n hx hb dNr_space_80 rfl (lv_at hl 1 rfl) ?_
        refine lv_iconst (v := 0) hx hb dNr_space_81 (by decide) ?_
        refine va_put (C := RNr) (T := TNr) (N := 10) (ci := 1) (v := .int 0) hx hb hg inNr tyNr tyNr_ok nmNr hown hK hP hD hS 0 rfl rfl 8 (by decide) (hg _ f_Nr_64) (fun _ h9 => h9) rfl (tyNr_ok 8 (by decide)) rfl rfl (Nat.le_of_ble_eq_true rfl) dNr_space_82 (fun H locs hP hD hS => ?_)
        have hP : va_P D gC (nrW cI cP a ((((u_5.sR (fillF u_5.R 0 16 0)).sF 2 0).sF 3 0).sF 4 0)) H := hP
        have hD : va_D A (nrW cI cP a ((((u_5.sR (fillF u_5.R 0 16 0)).sF 2 0).sF 3 0).sF 4 0)) := hD
        refine lv_aload_n hx hb dNr_space_85 rfl (lv_at hl 1 rfl) ?_
        refine lv_iconst (v := 0) hx hb dNr_space_86 (by decide) ?_
        refine va_put (C := RNr) (T := TNr) (N := 10) (ci := 1) (v := .int 0) hx hb hg inNr tyNr tyNr_ok nmNr hown hK hP hD hS 0 rfl rfl 9 (by decide) (hg _ f_Nr_67) (fun _ h9 => h9) rfl (tyNr_ok 9 (by decide)) rfl rfl (Nat.le_of_ble_eq_true rfl) dNr_space_87 (fun H locs hP hD hS => ?_)
        have hP : va_P D gC (nrW cI cP a (((((u_5.sR (fillF u_5.R 0 16 0)).sF 2 0).sF 3 0).sF 4 0).sF 5 0)) H := hP
        have hD : va_D A (nrW cI cP a (((((u_5.sR (fillF u_5.R 0 16 0)).sF 2 0).sF 3 0).sF 4 0).sF 5 0)) := hD
        refine lv_iload hx hb dNr_space_90 (lv_at hl 0 rfl) ?_
        exact vx_ret (W.widen (k := 1) (n := 10241) (by decide) (by decide) (gx_iret (u := ((((u_5.sR (fillF u_5.R 0 16 0)).sF 2 0).sF 3 0).sF 4 0).sF 5 0) E hK hP hD hS ⟨⟨c_9, c_20, c_32⟩, rfl, u_5, hq_6, rfl⟩ dNr_space_92))
      · exact gv_throw (X := xIA) (tx := "no such sizes") (is := 40) (ix := 7) (rx := rxIA) E rfl hfl hex hZ hT hK hP hD hS hl.1 rIA0 rIA1 rIA2 rIA5 (by decide) kl_Nr_38 z_IllegalArgumentException (by decide) gx_IA gy_IA go_IA ⟨rfl, Or.inr (Or.inr c_32)⟩ (by decide) (by decide) (by decide) (by decide) (by decide) (by decide) dNr_space_35 dNr_space_38 dNr_space_39 dNr_space_41 dNr_space_44
set_option maxHeartbeats 4000000 in
set_option maxRecDepth 100000 in
/-- a collection -/
theorem qNr_collect (l : Launch) (hfl : l.stackTraces = false) (D : va_G) (cI cP : ClassId) (a : Nat → Nat) (σ : nSt) (c0 : Nat) (r0 : Int32) (u0 : nSt) (hev : ¬ (σ.P 3 1 - σ.P 3 2 < σ.P 0 2 + σ.P (1 + c0) 2) → ColE σ c0 r0 u0) (hrw : rwI σ c0) (hN : σ.N < 2 ^ 31) : gv_M l yNr_collect (Cond.code yNr_collect cNr_collect 4 (some .int) :: gW) (gRc 8 1 6) D gC (nrT cI cP) (nrW cI cP a) σ [.ref (a 0)] (fun r u => ¬ (σ.P 3 1 - σ.P 3 2 < σ.P 0 2 + σ.P (1 + c0) 2) ∧ r = r0 ∧ u = u0) (fun E => E = xIS ∧ σ.P 3 1 - σ.P 3 2 < σ.P 0 2 + σ.P (1 + c0) 2) := by
  refine gv_M.of (cc := cNr_collect) (maxL := 4) (ret := (some .int)) (by decide) rfl (Nat.le_of_ble_eq_true rfl) ?_
  intro p e s m args below meth c ls A E hex hZ hT hA hK hP hD hS hl
  obtain ⟨hx, hb, hr, hml, hts, hown, hlocks, hnm⟩ := id E
  have hg : ∀ w ∈ gW, w.before args s = true := fun w h => hts w (List.mem_cons_of_mem _ h)
  have hown : s.vm.findClass "NurseryRow" = some m.cls := hown
  have hl : lv_has ls 4 [(0, .ref (a 0))] := hl
  rcases hrw with ⟨hrw, rfl⟩ | ⟨hrw, rfl⟩
  · refine lv_aload_n hx hb dNr_collect_0 rfl (lv_at hl 0 rfl) ?_
    refine va_get (C := RNr) (T := TNr) (N := 10) (ci := 1) (v := .ref (a 1)) hx hb hg inNr hown hK hP 0 rfl rfl 0 (by decide) (hg _ f_Nr_11) (fun _ h9 => h9) rfl dNr_collect_1 ?_
    refine lv_iconst (v := 0) hx hb dNr_collect_4 (by decide) ?_
    refine va_aldq hx hb hK hP 1 1 rfl rfl (by unfold vp_in; decide) dNr_collect_5 ?_
    refine gx_stk (st' := [.ref (a (2 + 0))]) rfl ?_
    refine lv_astore_n (lv' := [(1, .ref (a (2 + 0))), (0, .ref (a 0))]) hx hb dNr_collect_6 rfl hl (by decide) rfl (fun ls hl => ?_)
    refine lv_aload_n hx hb dNr_collect_7 rfl (lv_at hl 1 rfl) ?_
    refine va_get (C := RNr) (T := TNr) (N := 10) (ci := 1) (v := .ref (a 1)) hx hb hg inNr hown hK hP 0 rfl rfl 0 (by decide) (hg _ f_Nr_11) (fun _ h9 => h9) rfl dNr_collect_8 ?_
    refine lv_iconst (v := 1) hx hb dNr_collect_11 (by decide) ?_
    refine lv_aload_n hx hb dNr_collect_12 rfl (lv_at hl 1 rfl) ?_
    refine va_get (C := RNr) (T := TNr) (N := 10) (ci := 1) (v := .int (σ.F 2)) hx hb hg inNr hown hK hP 0 rfl rfl 6 (by decide) (hg _ f_Nr_58) (fun _ h9 => h9) rfl dNr_collect_13 ?_
    refine gx_top (z := 0) hrw ?_
    refine lv_iadd hx hb dNr_collect_16 ?_
    refine gx_top (z := 1) (by decide) ?_
    refine va_aldq hx hb hK hP 1 1 rfl rfl (by unfold vp_in; decide) dNr_collect_17 ?_
    refine gx_stk (st' := [.ref (a (2 + 1))]) rfl ?_
    refine lv_astore_n (lv' := [(2, .ref (a (2 + 1))), (1, .ref (a (2 + 0))), (0, .ref (a 0))]) hx hb dNr_collect_18 rfl hl (by decide) rfl (fun ls hl => ?_)
    refine lv_aload_n hx hb dNr_collect_19 rfl (lv_at hl 2 rfl) ?_
    refine va_get (C := RNr) (T := TNr) (N := 10) (ci := 1) (v := .ref (a 1)) hx hb hg inNr hown hK hP 0 rfl rfl 0 (by decide) (hg _ f_Nr_11) (fun _ h9 => h9) rfl dNr_collect_20 ?_
    refine lv_iconst (v := 3) hx hb dNr_collect_23 (by decide) ?_
    refine va_aldq hx hb hK hP 1 1 rfl rfl (by unfold vp_in; decide) dNr_collect_24 ?_
    refine gx_stk (st' := [.ref (a (2 + 3))]) rfl ?_
    refine gx_callp (C := "NurseryRow$Part") (As := []) (rest := []) E (nr_liftp (i := 3) (by decide) (qPt_free l D _ (a (2 + 3)) (σ.p 3))) (gx_cwV hts l_Nr_74 k_Pt_free ki_Pt_free ke_Pt_free z_Pt n_Pt_free ⟨by decide, by decide⟩) hK hP hD (va_recv hK hP (ci := 0) (q0 := 5) rfl rfl) hl.1 rfl rfl (Nat.le_of_ble_eq_true rfl) ⟨Nat.zero_le _, Nat.zero_le _⟩ dNr_collect_25 ?_
    refine gx_top (z := (σ.P 3 1) - (σ.P 3 2)) rfl ?_
    refine lv_aload_n hx hb dNr_collect_28 rfl (lv_at hl 1 rfl) ?_
    refine va_get (C := RPt) (T := TPt) (N := 4) (ci := 0) (v := .int (σ.P 0 2)) hx hb hg inPt hown hK hP 2 rfl rfl 2 (by decide) (hg _ f_Nr_112) (fun _ h9 => h9) rfl dNr_collect_29 ?_
    refine lv_aload_n hx hb dNr_collect_32 rfl (lv_at hl 0 rfl) ?_
    refine va_get (C := RPt) (T := TPt) (N := 4) (ci := 0) (v := .int (σ.P 1 2)) hx hb hg inPt hown hK hP 3 rfl rfl 2 (by decide) (hg _ f_Nr_112) (fun _ h9 => h9) rfl dNr_collect_33 ?_
    refine lv_iadd hx hb dNr_collect_36 ?_
    refine lv_icmp_ge (tgt := 50) hx hb dNr_collect_37 (by decide) (fun c_37 => ?_) (fun c_37 => ?_)
    · obtain ⟨n3, k0, nC, v1, v2, v3, hn3, hP33, hP30, hev1, hev2, hev3, hr0, hu0⟩ := hev (Int32.not_lt.mpr c_37)
      have hrw0 : rwI σ 0 := Or.inl ⟨hrw, rfl⟩
      have k1 := hev1.kept
      have k2 := hev2.kept
      have k3 := hev3.kept
      have hrw1 : rwI v1 0 := hrw0.of k1.1
      have hrw2 : rwI v2 0 := hrw1.of k2.1
      have n1 : v1.N = σ.N := k1.2.1
      have n2 : v2.N = v1.N := k2.2.1
      refine lv_aload_n hx hb dNr_collect_50 rfl (lv_at hl 2 rfl) ?_
      refine va_get (C := RNr) (T := TNr) (N := 10) (ci := 1) (v := .ref (a 1)) hx hb hg inNr hown hK hP 0 rfl rfl 0 (by decide) (hg _ f_Nr_11) (fun _ h9 => h9) rfl dNr_collect_51 ?_
      refine lv_iconst (v := 3) hx hb dNr_collect_54 (by decide) ?_
      refine va_aldq hx hb hK hP 1 1 rfl rfl (by unfold vp_in; decide) dNr_collect_55 ?_
      refine gx_stk (st' := [.ref (a (2 + 3))]) rfl ?_
      refine va_get (C := RPt) (T := TPt) (N := 4) (ci := 0) (v := .int (σ.P 3 3)) hx hb hg inPt hown hK hP 5 rfl rfl 3 (by decide) (hg _ f_Nr_120) (fun _ h9 => h9) rfl dNr_collect_56 ?_
      refine gx_top (z := nI n3) hP33 ?_
      refine lv_istore_n (lv' := [(3, .int (nI n3)), (2, .ref (a (2 + 1))), (1, .ref (a (2 + 0))), (0, .ref (a 0))]) hx hb dNr_collect_59 rfl hl (by decide) rfl (fun ls hl => ?_)
      refine lv_aload_n hx hb dNr_collect_60 rfl (lv_at hl 3 rfl) ?_
      refine lv_iconst (v := 0) hx hb dNr_collect_61 (by decide) ?_
      refine va_put (C := RNr) (T := TNr) (N := 10) (ci := 1) (v := .int 0) hx hb hg inNr tyNr tyNr_ok nmNr hown hK hP hD hS 0 rfl rfl 4 (by decide) (hg _ f_Nr_123) (fun _ h9 => h9) rfl (tyNr_ok 4 (by decide)) rfl rfl (Nat.le_of_ble_eq_true rfl) dNr_collect_62 (fun H locs hP hD hS => ?_)
      have hP : va_P D gC (nrW cI cP a (σ.sF 0 0)) H := hP
      have hD : va_D A (nrW cI cP a (σ.sF 0 0)) := hD
      refine lv_aload_n hx hb dNr_collect_65 rfl (lv_at hl 3 rfl) ?_
      refine gx_callv (C := "NurseryRow") (As := []) (rest := []) E (qNr_followRoots l D cI cP a (σ.sF 0 0) 0 v1 hev1 hrw0 hN) (gx_cwV hts l_Nr_126 k_Nr_followRoots ki_Nr_followRoots ke_Nr_followRoots z_Nr n_Nr_followRoots ⟨by decide, by decide⟩) hK hP hD hS hA (va_recv hK hP (ci := 1) (q0 := 0) rfl rfl) hl.1 rfl rfl (Nat.le_of_ble_eq_true rfl) ⟨by decide, by decide⟩ dNr_collect_66 (fun u_2 H locs hq_3 hP hD hS => ?_)
      subst hq_3
      refine lv_aload_n hx hb dNr_collect_69 rfl (lv_at hl 3 rfl) ?_
      refine lv_iload_n hx hb dNr_collect_70 rfl (lv_at hl 0 rfl) ?_
      refine gx_callv (C := "NurseryRow") (As := [.int (nI n3)]) (rest := []) E (qNr_followOld l D cI cP a u_2 0 n3 k0 v2 hn3 hP30 hev2 hrw1 (by omega)) (gx_cwV hts l_Nr_129 k_Nr_followOld ki_Nr_followOld ke_Nr_followOld z_Nr n_Nr_followOld ⟨by decide, by decide⟩) hK hP hD hS hA (va_recv hK hP (ci := 1) (q0 := 0) rfl rfl) hl.1 rfl rfl (Nat.le_of_ble_eq_true rfl) ⟨by decide, by decide⟩ dNr_collect_71 (fun u_5 H locs hq_6 hP hD hS => ?_)
      subst hq_6
      refine lv_aload_n hx hb dNr_collect_74 rfl (lv_at hl 3 rfl) ?_
      refine gx_callv (C := "NurseryRow") (As := []) (rest := []) E (qNr_followCopies l D cI cP a u_5 0 nC v3 hev3 hrw2 (by omega)) (gx_cwV hts l_Nr_133 k_Nr_followCopies ki_Nr_followCopies ke_Nr_followCopies z_Nr n_Nr_followCopies ⟨by decide, by decide⟩) hK hP hD hS hA (va_recv hK hP (ci := 1) (q0 := 0) rfl rfl) hl.1 rfl rfl (Nat.le_of_ble_eq_true rfl) ⟨by decide, by decide⟩ dNr_collect_75 (fun u_8 H locs hq_9 hP hD hS => ?_)
      subst hq_9
      refine lv_aload_n hx hb dNr_collect_78 rfl (lv_at hl 2 rfl) ?_
      refine gx_callv (C := "NurseryRow$Part") (As := []) (rest := []) E (nr_liftv (i := 0) (by decide) (qPt_empty l D _ (a (2 + 0)) (u_8.p 0))) (gx_cwV hts l_Nr_136 k_Pt_empty ki_Pt_empty ke_Pt_empty z_Pt n_Pt_empty ⟨by decide, by decide⟩) hK hP hD hS hA (va_recv hK hP (ci := 0) (q0 := 2) rfl rfl) hl.1 rfl rfl (Nat.le_of_ble_eq_true rfl) ⟨by decide, by decide⟩ dNr_collect_79 (fun u_11 H locs hq_12 hP hD hS => ?_)
      obtain ⟨v, hv, hu⟩ := hq_12
      subst hu; subst hv
      have hP : va_P D gC (nrW cI cP a (u_8.sP 0 (u_8.P 0 0, u_8.P 0 1, 0, 0))) H := hP
      have hD : va_D A (nrW cI cP a (u_8.sP 0 (u_8.P 0 0, u_8.P 0 1, 0, 0))) := hD
      refine lv_aload_n hx hb dNr_collect_82 rfl (lv_at hl 1 rfl) ?_
      refine gx_callv (C := "NurseryRow$Part") (As := []) (rest := []) E (nr_liftv (i := 1) (by decide) (qPt_empty l D _ (a (2 + 1)) ((u_8.sP 0 (u_8.P 0 0, u_8.P 0 1, 0, 0)).p 1))) (gx_cwV hts l_Nr_136 k_Pt_empty ki_Pt_empty ke_Pt_empty z_Pt n_Pt_empty ⟨by decide, by decide⟩) hK hP hD hS hA (va_recv hK hP (ci := 0) (q0 := 3) rfl rfl) hl.1 rfl rfl (Nat.le_of_ble_eq_true rfl) ⟨by decide, by decide⟩ dNr_collect_83 (fun u_14 H locs hq_15 hP hD hS => ?_)
      obtain ⟨v, hv, hu⟩ := hq_15
      subst hu; subst hv
      have hP : va_P D gC (nrW cI cP a ((u_8.sP 0 (u_8.P 0 0, u_8.P 0 1, 0, 0)).sP 1 (u_8.P 1 0, u_8.P 1 1, 0, 0))) H := hP
      have hD : va_D A (nrW cI cP a ((u_8.sP 0 (u_8.P 0 0, u_8.P 0 1, 0, 0)).sP 1 (u_8.P 1 0, u_8.P 1 1, 0, 0))) := hD
      refine lv_aload_n hx hb dNr_collect_86 rfl (lv_at hl 3 rfl) ?_
      refine lv_iconst (v := 1) hx hb dNr_collect_87 (by decide) ?_
      refine lv_aload_n hx hb dNr_collect_88 rfl (lv_at hl 3 rfl) ?_
      refine va_get (C := RNr) (T := TNr) (N := 10) (ci := 1) (v := .int (u_8.F 2)) hx hb hg inNr hown hK hP 0 rfl rfl 6 (by decide) (hg _ f_Nr_58) (fun _ h9 => h9) rfl dNr_collect_89 ?_
      refine lv_isub hx hb dNr_collect_92 ?_
      refine va_put (C := RNr) (T := TNr) (N := 10) (ci := 1) (v := .int (1 - (u_8.F 2))) hx hb hg inNr tyNr tyNr_ok nmNr hown hK hP hD hS 0 rfl rfl 6 (by decide) (hg _ f_Nr_58) (fun _ h9 => h9) rfl (tyNr_ok 6 (by decide)) rfl rfl (Nat.le_of_ble_eq_true rfl) dNr_collect_93 (fun H locs hP hD hS => ?_)
      have hP : va_P D gC (nrW cI cP a (((u_8.sP 0 (u_8.P 0 0, u_8.P 0 1, 0, 0)).sP 1 (u_8.P 1 0, u_8.P 1 1, 0, 0)).sF 2 (1 - (u_8.F 2)))) H := hP
      have hD : va_D A (nrW cI cP a (((u_8.sP 0 (u_8.P 0 0, u_8.P 0 1, 0, 0)).sP 1 (u_8.P 1 0, u_8.P 1 1, 0, 0)).sF 2 (1 - (u_8.F 2)))) := hD
      refine lv_aload_n hx hb dNr_collect_96 rfl (lv_at hl 3 rfl) ?_
      refine lv_dup hx hb dNr_collect_97 rfl ?_
      refine va_get (C := RNr) (T := TNr) (N := 10) (ci := 1) (v := .int (u_8.F 3)) hx hb hg inNr hown hK hP 0 rfl rfl 7 (by decide) (hg _ f_Nr_61) (fun _ h9 => h9) rfl dNr_collect_98 ?_
      refine lv_iconst (v := 1) hx hb dNr_collect_101 (by decide) ?_
      refine lv_iadd hx hb dNr_collect_102 ?_
      refine va_put (C := RNr) (T := TNr) (N := 10) (ci := 1) (v := .int ((u_8.F 3) + 1)) hx hb hg inNr tyNr tyNr_ok nmNr hown hK hP hD hS 0 rfl rfl 7 (by decide) (hg _ f_Nr_61) (fun _ h9 => h9) rfl (tyNr_ok 7 (by decide)) rfl rfl (Nat.le_of_ble_eq_true rfl) dNr_collect_103 (fun H locs hP hD hS => ?_)
      have hP : va_P D gC (nrW cI cP a ((((u_8.sP 0 (u_8.P 0 0, u_8.P 0 1, 0, 0)).sP 1 (u_8.P 1 0, u_8.P 1 1, 0, 0)).sF 2 (1 - (u_8.F 2))).sF 3 ((u_8.F 3) + 1))) H := hP
      have hD : va_D A (nrW cI cP a ((((u_8.sP 0 (u_8.P 0 0, u_8.P 0 1, 0, 0)).sP 1 (u_8.P 1 0, u_8.P 1 1, 0, 0)).sF 2 (1 - (u_8.F 2))).sF 3 ((u_8.F 3) + 1))) := hD
      refine lv_aload_n hx hb dNr_collect_106 rfl (lv_at hl 3 rfl) ?_
      refine va_get (C := RNr) (T := TNr) (N := 10) (ci := 1) (v := .int (u_8.F 0)) hx hb hg inNr hown hK hP 0 rfl rfl 4 (by decide) (hg _ f_Nr_123) (fun _ h9 => h9) rfl dNr_collect_107 ?_
      exact vx_ret (W.widen (k := 1) (n := 6) (by decide) (by decide) (gx_iret (u := (((u_8.sP 0 (u_8.P 0 0, u_8.P 0 1, 0, 0)).sP 1 (u_8.P 1 0, u_8.P 1 1, 0, 0)).sF 2 (1 - (u_8.F 2))).sF 3 ((u_8.F 3) + 1)) E hK hP hD hS ⟨Int32.not_lt.mpr c_37, hr0.symm, hu0.symm⟩ dNr_collect_110))
    · exact gv_throw (X := xIS) (tx := "OLD has too little room") (is := 117) (ix := 7) (rx := rxIS) E rfl hfl hex hZ hT hK hP hD hS hl.1 rIS0 rIS1 rIS2 rIS5 (by decide) kl_Nr_115 z_IllegalStateException (by decide) gx_IS gy_IS go_IS ⟨rfl, Int32.not_le.mp c_37⟩ (by decide) (by decide) (by decide) (by decide) (by decide) (by decide) dNr_collect_40 dNr_collect_43 dNr_collect_44 dNr_collect_46 dNr_collect_49
  · refine lv_aload_n hx hb dNr_collect_0 rfl (lv_at hl 0 rfl) ?_
    refine va_get (C := RNr) (T := TNr) (N := 10) (ci := 1) (v := .ref (a 1)) hx hb hg inNr hown hK hP 0 rfl rfl 0 (by decide) (hg _ f_Nr_11) (fun _ h9 => h9) rfl dNr_collect_1 ?_
    refine lv_iconst (v := 0) hx hb dNr_collect_4 (by decide) ?_
    refine va_aldq hx hb hK hP 1 1 rfl rfl (by unfold vp_in; decide) dNr_collect_5 ?_
    refine gx_stk (st' := [.ref (a (2 + 0))]) rfl ?_
    refine lv_astore_n (lv' := [(1, .ref (a (2 + 0))), (0, .ref (a 0))]) hx hb dNr_collect_6 rfl hl (by decide) rfl (fun ls hl => ?_)
    refine lv_aload_n hx hb dNr_collect_7 rfl (lv_at hl 1 rfl) ?_
    refine va_get (C := RNr) (T := TNr) (N := 10) (ci := 1) (v := .ref (a 1)) hx hb hg inNr hown hK hP 0 rfl rfl 0 (by decide) (hg _ f_Nr_11) (fun _ h9 => h9) rfl dNr_collect_8 ?_
    refine lv_iconst (v := 1) hx hb dNr_collect_11 (by decide) ?_
    refine lv_aload_n hx hb dNr_collect_12 rfl (lv_at hl 1 rfl) ?_
    refine va_get (C := RNr) (T := TNr) (N := 10) (ci := 1) (v := .int (σ.F 2)) hx hb hg inNr hown hK hP 0 rfl rfl 6 (by decide) (hg _ f_Nr_58) (fun _ h9 => h9) rfl dNr_collect_13 ?_
    refine gx_top (z := 1) hrw ?_
    refine lv_iadd hx hb dNr_collect_16 ?_
    refine gx_top (z := 2) (by decide) ?_
    refine va_aldq hx hb hK hP 1 1 rfl rfl (by unfold vp_in; decide) dNr_collect_17 ?_
    refine gx_stk (st' := [.ref (a (2 + 2))]) rfl ?_
    refine lv_astore_n (lv' := [(2, .ref (a (2 + 2))), (1, .ref (a (2 + 0))), (0, .ref (a 0))]) hx hb dNr_collect_18 rfl hl (by decide) rfl (fun ls hl => ?_)
    refine lv_aload_n hx hb dNr_collect_19 rfl (lv_at hl 2 rfl) ?_
    refine va_get (C := RNr) (T := TNr) (N := 10) (ci := 1) (v := .ref (a 1)) hx hb hg inNr hown hK hP 0 rfl rfl 0 (by decide) (hg _ f_Nr_11) (fun _ h9 => h9) rfl dNr_collect_20 ?_
    refine lv_iconst (v := 3) hx hb dNr_collect_23 (by decide) ?_
    refine va_aldq hx hb hK hP 1 1 rfl rfl (by unfold vp_in; decide) dNr_collect_24 ?_
    refine gx_stk (st' := [.ref (a (2 + 3))]) rfl ?_
    refine gx_callp (C := "NurseryRow$Part") (As := []) (rest := []) E (nr_liftp (i := 3) (by decide) (qPt_free l D _ (a (2 + 3)) (σ.p 3))) (gx_cwV hts l_Nr_74 k_Pt_free ki_Pt_free ke_Pt_free z_Pt n_Pt_free ⟨by decide, by decide⟩) hK hP hD (va_recv hK hP (ci := 0) (q0 := 5) rfl rfl) hl.1 rfl rfl (Nat.le_of_ble_eq_true rfl) ⟨Nat.zero_le _, Nat.zero_le _⟩ dNr_collect_25 ?_
    refine gx_top (z := (σ.P 3 1) - (σ.P 3 2)) rfl ?_
    refine lv_aload_n hx hb dNr_collect_28 rfl (lv_at hl 1 rfl) ?_
    refine va_get (C := RPt) (T := TPt) (N := 4) (ci := 0) (v := .int (σ.P 0 2)) hx hb hg inPt hown hK hP 2 rfl rfl 2 (by decide) (hg _ f_Nr_112) (fun _ h9 => h9) rfl dNr_collect_29 ?_
    refine lv_aload_n hx hb dNr_collect_32 rfl (lv_at hl 0 rfl) ?_
    refine va_get (C := RPt) (T := TPt) (N := 4) (ci := 0) (v := .int (σ.P 2 2)) hx hb hg inPt hown hK hP 4 rfl rfl 2 (by decide) (hg _ f_Nr_112) (fun _ h9 => h9) rfl dNr_collect_33 ?_
    refine lv_iadd hx hb dNr_collect_36 ?_
    refine lv_icmp_ge (tgt := 50) hx hb dNr_collect_37 (by decide) (fun c_37 => ?_) (fun c_37 => ?_)
    · obtain ⟨n3, k0, nC, v1, v2, v3, hn3, hP33, hP30, hev1, hev2, hev3, hr0, hu0⟩ := hev (Int32.not_lt.mpr c_37)
      have hrw0 : rwI σ 1 := Or.inr ⟨hrw, rfl⟩
      have k1 := hev1.kept
      have k2 := hev2.kept
      have k3 := hev3.kept
      have hrw1 : rwI v1 1 := hrw0.of k1.1
      have hrw2 : rwI v2 1 := hrw1.of k2.1
      have n1 : v1.N = σ.N := k1.2.1
      have n2 : v2.N = v1.N := k2.2.1
      refine lv_aload_n hx hb dNr_collect_50 rfl (lv_at hl 2 rfl) ?_
      refine va_get (C := RNr) (T := TNr) (N := 10) (ci := 1) (v := .ref (a 1)) hx hb hg inNr hown hK hP 0 rfl rfl 0 (by decide) (hg _ f_Nr_11) (fun _ h9 => h9) rfl dNr_collect_51 ?_
      refine lv_iconst (v := 3) hx hb dNr_collect_54 (by decide) ?_
      refine va_aldq hx hb hK hP 1 1 rfl rfl (by unfold vp_in; decide) dNr_collect_55 ?_
      refine gx_stk (st' := [.ref (a (2 + 3))]) rfl ?_
      refine va_get (C := RPt) (T := TPt) (N := 4) (ci := 0) (v := .int (σ.P 3 3)) hx hb hg inPt hown hK hP 5 rfl rfl 3 (by decide) (hg _ f_Nr_120) (fun _ h9 => h9) rfl dNr_collect_56 ?_
      refine gx_top (z := nI n3) hP33 ?_
      refine lv_istore_n (lv' := [(3, .int (nI n3)), (2, .ref (a (2 + 2))), (1, .ref (a (2 + 0))), (0, .ref (a 0))]) hx hb dNr_collect_59 rfl hl (by decide) rfl (fun ls hl => ?_)
      refine lv_aload_n hx hb dNr_collect_60 rfl (lv_at hl 3 rfl) ?_
      refine lv_iconst (v := 0) hx hb dNr_collect_61 (by decide) ?_
      refine va_put (C := RNr) (T := TNr) (N := 10) (ci := 1) (v := .int 0) hx hb hg inNr tyNr tyNr_ok nmNr hown hK hP hD hS 0 rfl rfl 4 (by decide) (hg _ f_Nr_123) (fun _ h9 => h9) rfl (tyNr_ok 4 (by decide)) rfl rfl (Nat.le_of_ble_eq_true rfl) dNr_collect_62 (fun H locs hP hD hS => ?_)
      have hP : va_P D gC (nrW cI cP a (σ.sF 0 0)) H := hP
      have hD : va_D A (nrW cI cP a (σ.sF 0 0)) := hD
      refine lv_aload_n hx hb dNr_collect_65 rfl (lv_at hl 3 rfl) ?_
      refine gx_callv (C := "NurseryRow") (As := []) (rest := []) E (qNr_followRoots l D cI cP a (σ.sF 0 0) 1 v1 hev1 hrw0 hN) (gx_cwV hts l_Nr_126 k_Nr_followRoots ki_Nr_followRoots ke_Nr_followRoots z_Nr n_Nr_followRoots ⟨by decide, by decide⟩) hK hP hD hS hA (va_recv hK hP (ci := 1) (q0 := 0) rfl rfl) hl.1 rfl rfl (Nat.le_of_ble_eq_true rfl) ⟨by decide, by decide⟩ dNr_collect_66 (fun u_17 H locs hq_18 hP hD hS => ?_)
      subst hq_18
      refine lv_aload_n hx hb dNr_collect_69 rfl (lv_at hl 3 rfl) ?_
      refine lv_iload_n hx hb dNr_collect_70 rfl (lv_at hl 0 rfl) ?_
      refine gx_callv (C := "NurseryRow") (As := [.int (nI n3)]) (rest := []) E (qNr_followOld l D cI cP a u_17 1 n3 k0 v2 hn3 hP30 hev2 hrw1 (by omega)) (gx_cwV hts l_Nr_129 k_Nr_followOld ki_Nr_followOld ke_Nr_followOld z_Nr n_Nr_followOld ⟨by decide, by decide⟩) hK hP hD hS hA (va_recv hK hP (ci := 1) (q0 := 0) rfl rfl) hl.1 rfl rfl (Nat.le_of_ble_eq_true rfl) ⟨by decide, by decide⟩ dNr_collect_71 (fun u_20 H locs hq_21 hP hD hS => ?_)
      subst hq_21
      refine lv_aload_n hx hb dNr_collect_74 rfl (lv_at hl 3 rfl) ?_
      refine gx_callv (C := "NurseryRow") (As := []) (rest := []) E (qNr_followCopies l D cI cP a u_20 1 nC v3 hev3 hrw2 (by omega)) (gx_cwV hts l_Nr_133 k_Nr_followCopies ki_Nr_followCopies ke_Nr_followCopies z_Nr n_Nr_followCopies ⟨by decide, by decide⟩) hK hP hD hS hA (va_recv hK hP (ci := 1) (q0 := 0) rfl rfl) hl.1 rfl rfl (Nat.le_of_ble_eq_true rfl) ⟨by decide, by decide⟩ dNr_collect_75 (fun u_23 H locs hq_24 hP hD hS => ?_)
      subst hq_24
      refine lv_aload_n hx hb dNr_collect_78 rfl (lv_at hl 2 rfl) ?_
      refine gx_callv (C := "NurseryRow$Part") (As := []) (rest := []) E (nr_liftv (i := 0) (by decide) (qPt_empty l D _ (a (2 + 0)) (u_23.p 0))) (gx_cwV hts l_Nr_136 k_Pt_empty ki_Pt_empty ke_Pt_empty z_Pt n_Pt_empty ⟨by decide, by decide⟩) hK hP hD hS hA (va_recv hK hP (ci := 0) (q0 := 2) rfl rfl) hl.1 rfl rfl (Nat.le_of_ble_eq_true rfl) ⟨by decide, by decide⟩ dNr_collect_79 (fun u_26 H locs hq_27 hP hD hS => ?_)
      obtain ⟨v, hv, hu⟩ := hq_27
      subst hu; subst hv
      have hP : va_P D gC (nrW cI cP a (u_23.sP 0 (u_23.P 0 0, u_23.P 0 1, 0, 0))) H := hP
      have hD : va_D A (nrW cI cP a (u_23.sP 0 (u_23.P 0 0, u_23.P 0 1, 0, 0))) := hD
      refine lv_aload_n hx hb dNr_collect_82 rfl (lv_at hl 1 rfl) ?_
      refine gx_callv (C := "NurseryRow$Part") (As := []) (rest := []) E (nr_liftv (i := 2) (by decide) (qPt_empty l D _ (a (2 + 2)) ((u_23.sP 0 (u_23.P 0 0, u_23.P 0 1, 0, 0)).p 2))) (gx_cwV hts l_Nr_136 k_Pt_empty ki_Pt_empty ke_Pt_empty z_Pt n_Pt_empty ⟨by decide, by decide⟩) hK hP hD hS hA (va_recv hK hP (ci := 0) (q0 := 4) rfl rfl) hl.1 rfl rfl (Nat.le_of_ble_eq_true rfl) ⟨by decide, by decide⟩ dNr_collect_83 (fun u_29 H locs hq_30 hP hD hS => ?_)
      obtain ⟨v, hv, hu⟩ := hq_30
      subst hu; subst hv
      have hP : va_P D gC (nrW cI cP a ((u_23.sP 0 (u_23.P 0 0, u_23.P 0 1, 0, 0)).sP 2 (u_23.P 2 0, u_23.P 2 1, 0, 0))) H := hP
      have hD : va_D A (nrW cI cP a ((u_23.sP 0 (u_23.P 0 0, u_23.P 0 1, 0, 0)).sP 2 (u_23.P 2 0, u_23.P 2 1, 0, 0))) := hD
      refine lv_aload_n hx hb dNr_collect_86 rfl (lv_at hl 3 rfl) ?_
      refine lv_iconst (v := 1) hx hb dNr_collect_87 (by decide) ?_
      refine lv_aload_n hx hb dNr_collect_88 rfl (lv_at hl 3 rfl) ?_
      refine va_get (C := RNr) (T := TNr) (N := 10) (ci := 1) (v := .int (u_23.F 2)) hx hb hg inNr hown hK hP 0 rfl rfl 6 (by decide) (hg _ f_Nr_58) (fun _ h9 => h9) rfl dNr_collect_89 ?_
      refine lv_isub hx hb dNr_collect_92 ?_
      refine va_put (C := RNr) (T := TNr) (N := 10) (ci := 1) (v := .int (1 - (u_23.F 2))) hx hb hg inNr tyNr tyNr_ok nmNr hown hK hP hD hS 0 rfl rfl 6 (by decide) (hg _ f_Nr_58) (fun _ h9 => h9) rfl (tyNr_ok 6 (by decide)) rfl rfl (Nat.le_of_ble_eq_true rfl) dNr_collect_93 (fun H locs hP hD hS => ?_)
      have hP : va_P D gC (nrW cI cP a (((u_23.sP 0 (u_23.P 0 0, u_23.P 0 1, 0, 0)).sP 2 (u_23.P 2 0, u_23.P 2 1, 0, 0)).sF 2 (1 - (u_23.F 2)))) H := hP
      have hD : va_D A (nrW cI cP a (((u_23.sP 0 (u_23.P 0 0, u_23.P 0 1, 0, 0)).sP 2 (u_23.P 2 0, u_23.P 2 1, 0, 0)).sF 2 (1 - (u_23.F 2)))) := hD
      refine lv_aload_n hx hb dNr_collect_96 rfl (lv_at hl 3 rfl) ?_
      refine lv_dup hx hb dNr_collect_97 rfl ?_
      refine va_get (C := RNr) (T := TNr) (N := 10) (ci := 1) (v := .int (u_23.F 3)) hx hb hg inNr hown hK hP 0 rfl rfl 7 (by decide) (hg _ f_Nr_61) (fun _ h9 => h9) rfl dNr_collect_98 ?_
      refine lv_iconst (v := 1) hx hb dNr_collect_101 (by decide) ?_
      refine lv_iadd hx hb dNr_collect_102 ?_
      refine va_put (C := RNr) (T := TNr) (N := 10) (ci := 1) (v := .int ((u_23.F 3) + 1)) hx hb hg inNr tyNr tyNr_ok nmNr hown hK hP hD hS 0 rfl rfl 7 (by decide) (hg _ f_Nr_61) (fun _ h9 => h9) rfl (tyNr_ok 7 (by decide)) rfl rfl (Nat.le_of_ble_eq_true rfl) dNr_collect_103 (fun H locs hP hD hS => ?_)
      have hP : va_P D gC (nrW cI cP a ((((u_23.sP 0 (u_23.P 0 0, u_23.P 0 1, 0, 0)).sP 2 (u_23.P 2 0, u_23.P 2 1, 0, 0)).sF 2 (1 - (u_23.F 2))).sF 3 ((u_23.F 3) + 1))) H := hP
      have hD : va_D A (nrW cI cP a ((((u_23.sP 0 (u_23.P 0 0, u_23.P 0 1, 0, 0)).sP 2 (u_23.P 2 0, u_23.P 2 1, 0, 0)).sF 2 (1 - (u_23.F 2))).sF 3 ((u_23.F 3) + 1))) := hD
      refine lv_aload_n hx hb dNr_collect_106 rfl (lv_at hl 3 rfl) ?_
      refine va_get (C := RNr) (T := TNr) (N := 10) (ci := 1) (v := .int (u_23.F 0)) hx hb hg inNr hown hK hP 0 rfl rfl 4 (by decide) (hg _ f_Nr_123) (fun _ h9 => h9) rfl dNr_collect_107 ?_
      exact vx_ret (W.widen (k := 1) (n := 6) (by decide) (by decide) (gx_iret (u := (((u_23.sP 0 (u_23.P 0 0, u_23.P 0 1, 0, 0)).sP 2 (u_23.P 2 0, u_23.P 2 1, 0, 0)).sF 2 (1 - (u_23.F 2))).sF 3 ((u_23.F 3) + 1)) E hK hP hD hS ⟨Int32.not_lt.mpr c_37, hr0.symm, hu0.symm⟩ dNr_collect_110))
    · exact gv_throw (X := xIS) (tx := "OLD has too little room") (is := 117) (ix := 7) (rx := rxIS) E rfl hfl hex hZ hT hK hP hD hS hl.1 rIS0 rIS1 rIS2 rIS5 (by decide) kl_Nr_115 z_IllegalStateException (by decide) gx_IS gy_IS go_IS ⟨rfl, Int32.not_le.mp c_37⟩ (by decide) (by decide) (by decide) (by decide) (by decide) (by decide) dNr_collect_40 dNr_collect_43 dNr_collect_44 dNr_collect_46 dNr_collect_49
