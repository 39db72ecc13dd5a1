/-! THE CLASS, its small methods -/
def isW (n lo hi : Int32) : Int32 := if n < lo then 0 else if hi < n then 0 else 1
set_option maxHeartbeats 4000000 in
set_option maxRecDepth 100000 in
/-- is n between? -/
theorem qNr_isWithin (l : Launch) (D : va_G) (tys : List (ClassId × FieldType)) (w : va_W) (n : Int32) (lo : Int32) (hi : Int32) : gx_Mp l yNr_isWithin (Cond.code yNr_isWithin cNr_isWithin 3 (some .boolean) :: gW) (gR 0) D gC tys w [.int n, .int lo, .int hi] (isW n lo hi) := by
  refine gx_Mp.of (cc := cNr_isWithin) (maxL := 3) (ret := (some .boolean)) (by decide) rfl (Nat.le_of_ble_eq_true rfl) ?_
  intro p e s m args below meth c ls E hK hP hD hl
  obtain ⟨hx, hb, hr, hml, hts, hown, hlocks, hnm⟩ := id E
  have hg : ∀ w ∈ gW, w.before args s = true := fun w h => hts w (List.mem_cons_of_mem _ h)
  have hown : s.vm.findClass "NurseryRow" = some m.cls := hown
  have hl : lv_has ls 3 [(0, .int n), (1, .int lo), (2, .int hi)] := hl
  refine lv_iload_n hx hb dNr_isWithin_0 rfl (lv_at hl 0 rfl) ?_
  refine lv_iload_n hx hb dNr_isWithin_1 rfl (lv_at hl 1 rfl) ?_
  refine lv_icmp_lt (tgt := 14) hx hb dNr_isWithin_2 (by decide) (fun c_2 => ?_) (fun c_2 => ?_)
  · refine lv_iconst (v := 0) hx hb dNr_isWithin_14 (by decide) ?_
    exact gx_zret E rfl (by simp [isW, c_2]) dNr_isWithin_15
  · refine lv_iload_n hx hb dNr_isWithin_5 rfl (lv_at hl 0 rfl) ?_
    refine lv_iload_n hx hb dNr_isWithin_6 rfl (lv_at hl 2 rfl) ?_
    refine lv_icmp_gt (tgt := 14) hx hb dNr_isWithin_7 (by decide) (fun c_7 => ?_) (fun c_7 => ?_)
    · refine lv_iconst (v := 0) hx hb dNr_isWithin_14 (by decide) ?_
      exact gx_zret E rfl (by simp [isW, c_2, c_7]) dNr_isWithin_15
    · refine lv_iconst (v := 1) hx hb dNr_isWithin_10 (by decide) ?_
      refine lv_goto (tgt := 15) hx hb dNr_isWithin_11 (by decide) ?_
      exact gx_zret E rfl (by simp [isW, c_2, c_7]) dNr_isWithin_15
def isR (n : Int32) : Int32 := if n < 0 then 0 else if 16 ≤ n then 0 else 1
set_option maxHeartbeats 4000000 in
set_option maxRecDepth 100000 in
/-- is there such a root? -/
theorem qNr_isRoot (l : Launch) (D : va_G) (tys : List (ClassId × FieldType)) (w : va_W) (n : Int32) : gx_Mp l yNr_isRoot (Cond.code yNr_isRoot cNr_isRoot 1 (some .boolean) :: gW) (gR 0) D gC tys w [.int n] (isR n) := by
  refine gx_Mp.of (cc := cNr_isRoot) (maxL := 1) (ret := (some .boolean)) (by decide) rfl (Nat.le_of_ble_eq_true rfl) ?_
  intro p e s m args below meth c ls E hK hP hD hl
  obtain ⟨hx, hb, hr, hml, hts, hown, hlocks, hnm⟩ := id E
  have hg : ∀ w ∈ gW, w.before args s = true := fun w h => hts w (List.mem_cons_of_mem _ h)
  have hown : s.vm.findClass "NurseryRow" = some m.cls := hown
  have hl : lv_has ls 1 [(0, .int n)] := hl
  refine lv_iload_n hx hb dNr_isRoot_0 rfl (lv_at hl 0 rfl) ?_
  refine lv_if_lt (tgt := 14) hx hb dNr_isRoot_1 (by decide) (fun c_1 => ?_) (fun c_1 => ?_)
  · refine lv_iconst (v := 0) hx hb dNr_isRoot_14 (by decide) ?_
    exact gx_zret E rfl (by simp [isR, c_1]) dNr_isRoot_15
  · refine lv_iload_n hx hb dNr_isRoot_4 rfl (lv_at hl 0 rfl) ?_
    refine lv_bipush (v := 16) hx hb dNr_isRoot_5 (by decide) ?_
    refine lv_icmp_ge (tgt := 14) hx hb dNr_isRoot_7 (by decide) (fun c_7 => ?_) (fun c_7 => ?_)
    · refine lv_iconst (v := 0) hx hb dNr_isRoot_14 (by decide) ?_
      exact gx_zret E rfl (by simp [isR, c_1, c_7]) dNr_isRoot_15
    · refine lv_iconst (v := 1) hx hb dNr_isRoot_10 (by decide) ?_
      refine lv_goto (tgt := 15) hx hb dNr_isRoot_11 (by decide) ?_
      exact gx_zret E rfl (by simp [isR, c_1, c_7]) dNr_isRoot_15
set_option maxHeartbeats 4000000 in
set_option maxRecDepth 100000 in
/-- how many cells in all -/
theorem qNr_allCells (l : Launch) (D : va_G) (cI cP : ClassId) (a : Nat → Nat) (σ : nSt) : gx_Mp l yNr_allCells (Cond.code yNr_allCells cNr_allCells 3 (some .int) :: gW) (gR 0) D gC (nrT cI cP) (nrW cI cP a σ) [.ref (a 0)] (0 + σ.P 0 1 + σ.P 1 1 + σ.P 2 1 + σ.P 3 1) := by
  refine gx_Mp.of (cc := cNr_allCells) (maxL := 3) (ret := (some .int)) (by decide) rfl (Nat.le_of_ble_eq_true rfl) ?_
  intro p e s m args below meth c ls E hK hP hD hl
  obtain ⟨hx, hb, hr, hml, hts, hown, hlocks, hnm⟩ := id E
  have hg : ∀ w ∈ gW, w.before args s = true := fun w h => hts w (List.mem_cons_of_mem _ h)
  have hown : s.vm.findClass "NurseryRow" = some m.cls := hown
  have hl : lv_has ls 3 [(0, .ref (a 0))] := hl
  refine lv_iconst (v := 0) hx hb dNr_allCells_0 (by decide) ?_
  refine lv_istore_n (lv' := [(1, .int 0), (0, .ref (a 0))]) hx hb dNr_allCells_1 rfl hl (by decide) rfl (fun ls hl => ?_)
  refine lv_iconst (v := 0) hx hb dNr_allCells_2 (by decide) ?_
  refine lv_istore_n (lv' := [(2, .int 0), (1, .int 0), (0, .ref (a 0))]) hx hb dNr_allCells_3 rfl hl (by decide) rfl (fun ls hl => ?_)
  refine lv_iload_n hx hb dNr_allCells_4 rfl (lv_at hl 0 rfl) ?_
  refine lv_iconst (v := 4) hx hb dNr_allCells_5 (by decide) ?_
  refine lv_icmp_ge (tgt := 27) hx hb dNr_allCells_6 (by decide) (fun c_6 => ?_) (fun c_6 => ?_)
  · exact absurd c_6 (by decide)
  · refine lv_iload_n hx hb dNr_allCells_9 rfl (lv_at hl 1 rfl) ?_
    refine lv_aload_n hx hb dNr_allCells_10 rfl (lv_at hl 2 rfl) ?_
    refine va_get (C := RNr) (T := TNr) (N := 10) (ci := 1) (v := .ref (a 1)) hx hb hg inNr hown hK hP 0 rfl rfl 0 (by decide) (hg _ f_Nr_11) (fun _ h9 => h9) rfl dNr_allCells_11 ?_
    refine lv_iload_n hx hb dNr_allCells_14 rfl (lv_at hl 0 rfl) ?_
    refine va_aldq hx hb hK hP 1 1 rfl rfl (by unfold vp_in; decide) dNr_allCells_15 ?_
    refine gx_stk (st' := [.ref (a (2 + 0)), .int 0]) rfl ?_
    refine va_get (C := RPt) (T := TPt) (N := 4) (ci := 0) (v := .int (σ.P 0 1)) hx hb hg inPt hown hK hP 2 rfl rfl 1 (by decide) (hg _ f_Nr_162) (fun _ h9 => h9) rfl dNr_allCells_16 ?_
    refine lv_iadd hx hb dNr_allCells_19 ?_
    refine lv_istore_n (lv' := [(1, .int (0 + (σ.P 0 1))), (2, .int 0), (0, .ref (a 0))]) hx hb dNr_allCells_20 rfl hl (by decide) rfl (fun ls hl => ?_)
    refine lv_iinc (v := 1) (lv' := [(2, .int 1), (1, .int (0 + (σ.P 0 1))), (0, .ref (a 0))]) hx hb dNr_allCells_21 hl (k := 1) rfl (by decide) (by decide) rfl (fun ls hl => ?_)
    refine lv_goto (tgt := 4) hx hb dNr_allCells_24 (by decide) ?_
    refine lv_iload_n hx hb dNr_allCells_4 rfl (lv_at hl 0 rfl) ?_
    refine lv_iconst (v := 4) hx hb dNr_allCells_5 (by decide) ?_
    refine lv_icmp_ge (tgt := 27) hx hb dNr_allCells_6 (by decide) (fun c_6' => ?_) (fun c_6' => ?_)
    · exact absurd c_6' (by decide)
    · refine lv_iload_n hx hb dNr_allCells_9 rfl (lv_at hl 1 rfl) ?_
      refine lv_aload_n hx hb dNr_allCells_10 rfl (lv_at hl 2 rfl) ?_
      refine va_get (C := RNr) (T := TNr) (N := 10) (ci := 1) (v := .ref (a 1)) hx hb hg inNr hown hK hP 0 rfl rfl 0 (by decide) (hg _ f_Nr_11) (fun _ h9 => h9) rfl dNr_allCells_11 ?_
      refine lv_iload_n hx hb dNr_allCells_14 rfl (lv_at hl 0 rfl) ?_
      refine va_aldq hx hb hK hP 1 1 rfl rfl (by unfold vp_in; decide) dNr_allCells_15 ?_
      refine gx_stk (st' := [.ref (a (2 + 1)), .int (0 + (σ.P 0 1))]) rfl ?_
      refine va_get (C := RPt) (T := TPt) (N := 4) (ci := 0) (v := .int (σ.P 1 1)) hx hb hg inPt hown hK hP 3 rfl rfl 1 (by decide) (hg _ f_Nr_162) (fun _ h9 => h9) rfl dNr_allCells_16 ?_
      refine lv_iadd hx hb dNr_allCells_19 ?_
      refine lv_istore_n (lv' := [(1, .int ((0 + (σ.P 0 1)) + (σ.P 1 1))), (2, .int 1), (0, .ref (a 0))]) hx hb dNr_allCells_20 rfl hl (by decide) rfl (fun ls hl => ?_)
      refine lv_iinc (v := 2) (lv' := [(2, .int 2), (1, .int ((0 + (σ.P 0 1)) + (σ.P 1 1))), (0, .ref (a 0))]) hx hb dNr_allCells_21 hl (k := 1) rfl (by decide) (by decide) rfl (fun ls hl => ?_)
      refine lv_goto (tgt := 4) hx hb dNr_allCells_24 (by decide) ?_
      refine lv_iload_n hx hb dNr_allCells_4 rfl (lv_at hl 0 rfl) ?_
      refine lv_iconst (v := 4) hx hb dNr_allCells_5 (by decide) ?_
      refine lv_icmp_ge (tgt := 27) hx hb dNr_allCells_6 (by decide) (fun c_6'' => ?_) (fun c_6'' => ?_)
      · exact absurd c_6'' (by decide)
      · refine lv_iload_n hx hb dNr_allCells_9 rfl (lv_at hl 1 rfl) ?_
        refine lv_aload_n hx hb dNr_allCells_10 rfl (lv_at hl 2 rfl) ?_
        refine va_get (C := RNr) (T := TNr) (N := 10) (ci := 1) (v := .ref (a 1)) hx hb hg inNr hown hK hP 0 rfl rfl 0 (by decide) (hg _ f_Nr_11) (fun _ h9 => h9) rfl dNr_allCells_11 ?_
        refine lv_iload_n hx hb dNr_allCells_14 rfl (lv_at hl 0 rfl) ?_
        refine va_aldq hx hb hK hP 1 1 rfl rfl (by unfold vp_in; decide) dNr_allCells_15 ?_
        refine gx_stk (st' := [.ref (a (2 + 2)), .int ((0 + (σ.P 0 1)) + (σ.P 1 1))]) rfl ?_
        refine va_get (C := RPt) (T := TPt) (N := 4) (ci := 0) (v := .int (σ.P 2 1)) hx hb hg inPt hown hK hP 4 rfl rfl 1 (by decide) (hg _ f_Nr_162) (fun _ h9 => h9) rfl dNr_allCells_16 ?_
        refine lv_iadd hx hb dNr_allCells_19 ?_
        refine lv_istore_n (lv' := [(1, .int (((0 + (σ.P 0 1)) + (σ.P 1 1)) + (σ.P 2 1))), (2, .int 2), (0, .ref (a 0))]) hx hb dNr_allCells_20 rfl hl (by decide) rfl (fun ls hl => ?_)
        refine lv_iinc (v := 3) (lv' := [(2, .int 3), (1, .int (((0 + (σ.P 0 1)) + (σ.P 1 1)) + (σ.P 2 1))), (0, .ref (a 0))]) hx hb dNr_allCells_21 hl (k := 1) rfl (by decide) (by decide) rfl (fun ls hl => ?_)
        refine lv_goto (tgt := 4) hx hb dNr_allCells_24 (by decide) ?_
        refine lv_iload_n hx hb dNr_allCells_4 rfl (lv_at hl 0 rfl) ?_
        refine lv_iconst (v := 4) hx hb dNr_allCells_5 (by decide) ?_
        refine lv_icmp_ge (tgt := 27) hx hb dNr_allCells_6 (by decide) (fun c_6''' => ?_) (fun c_6''' => ?_)
        · exact absurd c_6''' (by decide)
        · refine lv_iload_n hx hb dNr_allCells_9 rfl (lv_at hl 1 rfl) ?_
          refine lv_aload_n hx hb dNr_allCells_10 rfl (lv_at hl 2 rfl) ?_
          refine va_get (C := RNr) (T := TNr) (N := 10) (ci := 1) (v := .ref (a 1)) hx hb hg inNr hown hK hP 0 rfl rfl 0 (by decide) (hg _ f_Nr_11) (fun _ h9 => h9) rfl dNr_allCells_11 ?_
          refine lv_iload_n hx hb dNr_allCells_14 rfl (lv_at hl 0 rfl) ?_
          refine va_aldq hx hb hK hP 1 1 rfl rfl (by unfold vp_in; decide) dNr_allCells_15 ?_
          refine gx_stk (st' := [.ref (a (2 + 3)), .int (((0 + (σ.P 0 1)) + (σ.P 1 1)) + (σ.P 2 1))]) rfl ?_
          refine va_get (C := RPt) (T := TPt) (N := 4) (ci := 0) (v := .int (σ.P 3 1)) hx hb hg inPt hown hK hP 5 rfl rfl 1 (by decide) (hg _ f_Nr_162) (fun _ h9 => h9) rfl dNr_allCells_16 ?_
          refine lv_iadd hx hb dNr_allCells_19 ?_
          refine lv_istore_n (lv' := [(1, .int ((((0 + (σ.P 0 1)) + (σ.P 1 1)) + (σ.P 2 1)) + (σ.P 3 1))), (2, .int 3), (0, .ref (a 0))]) hx hb dNr_allCells_20 rfl hl (by decide) rfl (fun ls hl => ?_)
          refine lv_iinc (v := 4) (lv' := [(2, .int 4), (1, .int ((((0 + (σ.P 0 1)) + (σ.P 1 1)) + (σ.P 2 1)) + (σ.P 3 1))), (0, .ref (a 0))]) hx hb dNr_allCells_21 hl (k := 1) rfl (by decide) (by decide) rfl (fun ls hl => ?_)
          refine lv_goto (tgt := 4) hx hb dNr_allCells_24 (by decide) ?_
          refine lv_iload_n hx hb dNr_allCells_4 rfl (lv_at hl 0 rfl) ?_
          refine lv_iconst (v := 4) hx hb dNr_allCells_5 (by decide) ?_
          refine lv_icmp_ge (tgt := 27) hx hb dNr_allCells_6 (by decide) (fun c_6'''' => ?_) (fun c_6'''' => ?_)
          · refine lv_iload_n hx hb dNr_allCells_27 rfl (lv_at hl 1 rfl) ?_
            exact gx_pret E rfl dNr_allCells_28
          · exact absurd c_6'''' (by decide)
set_option maxHeartbeats 4000000 in
set_option maxRecDepth 100000 in
/-- all parts, empty -/
theorem qNr_layParts (l : Launch) (D : va_G) (cI cP : ClassId) (a : Nat → Nat) (σ : nSt) (x : Int32) (y : Int32) (z : Int32) : gx_Mv l yNr_layParts (Cond.code yNr_layParts cNr_layParts 4 none :: gW) (gR 2) D gC (nrT cI cP) (nrW cI cP a) σ [.ref (a 0), .int x, .int y, .int z] (fun u => u = (((σ.sP 0 (1, x, 0, 0)).sP 1 (1 + x, y, 0, 0)).sP 2 (1 + x + y, y, 0, 0)).sP 3 (1 + x + 2 * y, z, 0, 0)) := by
  refine gx_Mv.of (cc := cNr_layParts) (maxL := 4) (by decide) rfl (Nat.le_of_ble_eq_true rfl) ?_
  intro p e s m args below meth c ls A E hA hK hP hD hS hl
  obtain ⟨hx, hb, hr, hml, hts, hown, hlocks, hnm⟩ := id E
  have hg : ∀ w ∈ gW, w.before args s = true := fun w h => hts w (List.mem_cons_of_mem _ h)
  have hown : s.vm.findClass "NurseryRow" = some m.cls := hown
  have hl : lv_has ls 4 [(0, .ref (a 0)), (1, .int x), (2, .int y), (3, .int z)] := hl
  refine lv_aload_n hx hb dNr_layParts_0 rfl (lv_at hl 0 rfl) ?_
  refine va_get (C := RNr) (T := TNr) (N := 10) (ci := 1) (v := .ref (a 1)) hx hb hg inNr hown hK hP 0 rfl rfl 0 (by decide) (hg _ f_Nr_11) (fun _ h9 => h9) rfl dNr_layParts_1 ?_
  refine lv_iconst (v := 0) hx hb dNr_layParts_4 (by decide) ?_
  refine va_aldq hx hb hK hP 1 1 rfl rfl (by unfold vp_in; decide) dNr_layParts_5 ?_
  refine gx_stk (st' := [.ref (a (2 + 0))]) rfl ?_
  refine lv_iconst (v := 1) hx hb dNr_layParts_6 (by decide) ?_
  refine lv_iload_n hx hb dNr_layParts_7 rfl (lv_at hl 1 rfl) ?_
  refine gx_callv (C := "NurseryRow$Part") (As := [.int 1, .int x]) (rest := []) E (nr_liftv (i := 0) (by decide) (qPt_lay l D _ (a (2 + 0)) (σ.p 0) 1 x)) (gx_cwV hts l_Nr_158 k_Pt_lay ki_Pt_lay ke_Pt_lay z_Pt n_Pt_lay ⟨by decide, by decide⟩) hK hP hD hS hA (va_recv hK hP (ci := 0) (q0 := 2) rfl rfl) hl.1 rfl rfl (Nat.le_of_ble_eq_true rfl) ⟨by decide, by decide⟩ dNr_layParts_8 (fun u_2 H locs hq_3 hP hD hS => ?_)
  obtain ⟨v, hv, hu⟩ := hq_3
  subst hu; subst hv
  have hP : va_P D gC (nrW cI cP a (σ.sP 0 (1, x, 0, 0))) H := hP
  have hD : va_D A (nrW cI cP a (σ.sP 0 (1, x, 0, 0))) := hD
  refine lv_aload_n hx hb dNr_layParts_11 rfl (lv_at hl 0 rfl) ?_
  refine va_get (C := RNr) (T := TNr) (N := 10) (ci := 1) (v := .ref (a 1)) hx hb hg inNr hown hK hP 0 rfl rfl 0 (by decide) (hg _ f_Nr_11) (fun _ h9 => h9) rfl dNr_layParts_12 ?_
  refine lv_iconst (v := 1) hx hb dNr_layParts_15 (by decide) ?_
  refine va_aldq hx hb hK hP 1 1 rfl rfl (by unfold vp_in; decide) dNr_layParts_16 ?_
  refine gx_stk (st' := [.ref (a (2 + 1))]) rfl ?_
  refine lv_iconst (v := 1) hx hb dNr_layParts_17 (by decide) ?_
  refine lv_iload_n hx hb dNr_layParts_18 rfl (lv_at hl 1 rfl) ?_
  refine lv_iadd hx hb dNr_layParts_19 ?_
  refine lv_iload_n hx hb dNr_layParts_20 rfl (lv_at hl 2 rfl) ?_
  refine gx_callv (C := "NurseryRow$Part") (As := [.int (1 + x), .int y]) (rest := []) E (nr_liftv (i := 1) (by decide) (qPt_lay l D _ (a (2 + 1)) ((σ.sP 0 (1, x, 0, 0)).p 1) (1 + x) y)) (gx_cwV hts l_Nr_158 k_Pt_lay ki_Pt_lay ke_Pt_lay z_Pt n_Pt_lay ⟨by decide, by decide⟩) hK hP hD hS hA (va_recv hK hP (ci := 0) (q0 := 3) rfl rfl) hl.1 rfl rfl (Nat.le_of_ble_eq_true rfl) ⟨by decide, by decide⟩ dNr_layParts_21 (fun u_5 H locs hq_6 hP hD hS => ?_)
  obtain ⟨v, hv, hu⟩ := hq_6
  subst hu; subst hv
  have hP : va_P D gC (nrW cI cP a ((σ.sP 0 (1, x, 0, 0)).sP 1 (1 + x, y, 0, 0))) H := hP
  have hD : va_D A (nrW cI cP a ((σ.sP 0 (1, x, 0, 0)).sP 1 (1 + x, y, 0, 0))) := hD
  refine lv_aload_n hx hb dNr_layParts_24 rfl (lv_at hl 0 rfl) ?_
  refine va_get (C := RNr) (T := TNr) (N := 10) (ci := 1) (v := .ref (a 1)) hx hb hg inNr hown hK hP 0 rfl rfl 0 (by decide) (hg _ f_Nr_11) (fun _ h9 => h9) rfl dNr_layParts_25 ?_
  refine lv_iconst (v := 2) hx hb dNr_layParts_28 (by decide) ?_
  refine va_aldq hx hb hK hP 1 1 rfl rfl (by unfold vp_in; decide) dNr_layParts_29 ?_
  refine gx_stk (st' := [.ref (a (2 + 2))]) rfl ?_
  refine lv_iconst (v := 1) hx hb dNr_layParts_30 (by decide) ?_
  refine lv_iload_n hx hb dNr_layParts_31 rfl (lv_at hl 1 rfl) ?_
  refine lv_iadd hx hb dNr_layParts_32 ?_
  refine lv_iload_n hx hb dNr_layParts_33 rfl (lv_at hl 2 rfl) ?_
  refine lv_iadd hx hb dNr_layParts_34 ?_
  refine lv_iload_n hx hb dNr_layParts_35 rfl (lv_at hl 2 rfl) ?_
  refine gx_callv (C := "NurseryRow$Part") (As := [.int ((1 + x) + y), .int y]) (rest := []) E (nr_liftv (i := 2) (by decide) (qPt_lay l D _ (a (2 + 2)) (((σ.sP 0 (1, x, 0, 0)).sP 1 (1 + x, y, 0, 0)).p 2) ((1 + x) + y) y)) (gx_cwV hts l_Nr_158 k_Pt_lay ki_Pt_lay ke_Pt_lay z_Pt n_Pt_lay ⟨by decide, by decide⟩) hK hP hD hS hA (va_recv hK hP (ci := 0) (q0 := 4) rfl rfl) hl.1 rfl rfl (Nat.le_of_ble_eq_true rfl) ⟨by decide, by decide⟩ dNr_layParts_36 (fun u_8 H locs hq_9 hP hD hS => ?_)
  obtain ⟨v, hv, hu⟩ := hq_9
  subst hu; subst hv
  have hP : va_P D gC (nrW cI cP a (((σ.sP 0 (1, x, 0, 0)).sP 1 (1 + x, y, 0, 0)).sP 2 ((1 + x) + y, y, 0, 0))) H := hP
  have hD : va_D A (nrW cI cP a (((σ.sP 0 (1, x, 0, 0)).sP 1 (1 + x, y, 0, 0)).sP 2 ((1 + x) + y, y, 0, 0))) := hD
  refine lv_aload_n hx hb dNr_layParts_39 rfl (lv_at hl 0 rfl) ?_
  refine va_get (C := RNr) (T := TNr) (N := 10) (ci := 1) (v := .ref (a 1)) hx hb hg inNr hown hK hP 0 rfl rfl 0 (by decide) (hg _ f_Nr_11) (fun _ h9 => h9) rfl dNr_layParts_40 ?_
  refine lv_iconst (v := 3) hx hb dNr_layParts_43 (by decide) ?_
  refine va_aldq hx hb hK hP 1 1 rfl rfl (by unfold vp_in; decide) dNr_layParts_44 ?_
  refine gx_stk (st' := [.ref (a (2 + 3))]) rfl ?_
  refine lv_iconst (v := 1) hx hb dNr_layParts_45 (by decide) ?_
  refine lv_iload_n hx hb dNr_layParts_46 rfl (lv_at hl 1 rfl) ?_
  refine lv_iadd hx hb dNr_layParts_47 ?_
  refine lv_iconst (v := 2) hx hb dNr_layParts_48 (by decide) ?_
  refine lv_iload_n hx hb dNr_layParts_49 rfl (lv_at hl 2 rfl) ?_
  refine lv_imul hx hb dNr_layParts_50 ?_
  refine lv_iadd hx hb dNr_layParts_51 ?_
  refine lv_iload_n hx hb dNr_layParts_52 rfl (lv_at hl 3 rfl) ?_
  refine gx_callv (C := "NurseryRow$Part") (As := [.int ((1 + x) + (2 * y)), .int z]) (rest := []) E (nr_liftv (i := 3) (by decide) (qPt_lay l D _ (a (2 + 3)) ((((σ.sP 0 (1, x, 0, 0)).sP 1 (1 + x, y, 0, 0)).sP 2 ((1 + x) + y, y, 0, 0)).p 3) ((1 + x) + (2 * y)) z)) (gx_cwV hts l_Nr_158 k_Pt_lay ki_Pt_lay ke_Pt_lay z_Pt n_Pt_lay ⟨by decide, by decide⟩) hK hP hD hS hA (va_recv hK hP (ci := 0) (q0 := 5) rfl rfl) hl.1 rfl rfl (Nat.le_of_ble_eq_true rfl) ⟨by decide, by decide⟩ dNr_layParts_53 (fun u_11 H locs hq_12 hP hD hS => ?_)
  obtain ⟨v, hv, hu⟩ := hq_12
  subst hu; subst hv
  have hP : va_P D gC (nrW cI cP a ((((σ.sP 0 (1, x, 0, 0)).sP 1 (1 + x, y, 0, 0)).sP 2 ((1 + x) + y, y, 0, 0)).sP 3 ((1 + x) + (2 * y), z, 0, 0))) H := hP
  have hD : va_D A (nrW cI cP a ((((σ.sP 0 (1, x, 0, 0)).sP 1 (1 + x, y, 0, 0)).sP 2 ((1 + x) + y, y, 0, 0)).sP 3 ((1 + x) + (2 * y), z, 0, 0))) := hD
  exact gx_vret (u := (((σ.sP 0 (1, x, 0, 0)).sP 1 (1 + x, y, 0, 0)).sP 2 ((1 + x) + y, y, 0, 0)).sP 3 ((1 + x) + (2 * y), z, 0, 0)) E hK hP hD hS rfl dNr_layParts_56
set_option maxHeartbeats 4000000 in
set_option maxRecDepth 100000 in
/-- an object's size -/
theorem qNr_sizeAt (l : Launch) (D : va_G) (cI cP : ClassId) (a : Nat → Nat) (σ : nSt) (k : Nat) (hk : k + 1 < σ.N) (hN : σ.N < 2 ^ 31) : gx_Mp l yNr_sizeAt (Cond.code yNr_sizeAt cNr_sizeAt 2 (some .int) :: gW) (gR 0) D gC (nrT cI cP) (nrW cI cP a σ) [.ref (a 0), .int (nI k)] (3 + σ.X k + σ.X (k + 1)) := by
  refine gx_Mp.of (cc := cNr_sizeAt) (maxL := 2) (ret := (some .int)) (by decide) rfl (Nat.le_of_ble_eq_true rfl) ?_
  intro p e s m args below meth c ls E hK hP hD hl
  obtain ⟨hx, hb, hr, hml, hts, hown, hlocks, hnm⟩ := id E
  have hg : ∀ w ∈ gW, w.before args s = true := fun w h => hts w (List.mem_cons_of_mem _ h)
  have hown : s.vm.findClass "NurseryRow" = some m.cls := hown
  have hl : lv_has ls 2 [(0, .ref (a 0)), (1, .int (nI k))] := hl
  refine lv_iconst (v := 3) hx hb dNr_sizeAt_0 (by decide) ?_
  refine lv_aload_n hx hb dNr_sizeAt_1 rfl (lv_at hl 0 rfl) ?_
  refine va_get (C := RNr) (T := TNr) (N := 10) (ci := 1) (v := .ref σ.hx) hx hb hg inNr hown hK hP 0 rfl rfl 3 (by decide) (hg _ f_Nr_23) (fun _ h9 => h9) rfl dNr_sizeAt_2 ?_
  refine lv_iload_n hx hb dNr_sizeAt_5 rfl (lv_at hl 1 rfl) ?_
  refine va_iald hx hb hK hP 8 0 rfl rfl (vp_in_nI (Nat.lt_of_succ_lt hk) hN) dNr_sizeAt_6 ?_
  refine gx_top (z := σ.X k) (by rw [nI_clamp (Nat.lt_trans (Nat.lt_of_succ_lt hk) hN)]) ?_
  refine lv_iadd hx hb dNr_sizeAt_7 ?_
  refine lv_aload_n hx hb dNr_sizeAt_8 rfl (lv_at hl 0 rfl) ?_
  refine va_get (C := RNr) (T := TNr) (N := 10) (ci := 1) (v := .ref σ.hx) hx hb hg inNr hown hK hP 0 rfl rfl 3 (by decide) (hg _ f_Nr_23) (fun _ h9 => h9) rfl dNr_sizeAt_9 ?_
  refine lv_iload_n hx hb dNr_sizeAt_12 rfl (lv_at hl 1 rfl) ?_
  refine lv_iconst (v := 1) hx hb dNr_sizeAt_13 (by decide) ?_
  refine lv_iadd hx hb dNr_sizeAt_14 ?_
  refine gx_top (z := nI (k + 1)) (nI_1 k) ?_
  refine va_iald hx hb hK hP 8 0 rfl rfl (vp_in_nI hk hN) dNr_sizeAt_15 ?_
  refine gx_top (z := σ.X (k + 1)) (by rw [nI_clamp (Nat.lt_trans hk hN)]) ?_
  refine lv_iadd hx hb dNr_sizeAt_16 ?_
  exact gx_pret E rfl dNr_sizeAt_17
/-- which part covers x; 4 if none -/
def pOf (σ : nSt) (x : Int32) : Int32 := if ptCov (σ.P 0 0) (σ.P 0 2) x = 0 then (if ptCov (σ.P 1 0) (σ.P 1 2) x = 0 then (if ptCov (σ.P 2 0) (σ.P 2 2) x = 0 then (if ptCov (σ.P 3 0) (σ.P 3 2) x = 0 then 4 else 3) else 2) else 1) else 0
set_option maxHeartbeats 4000000 in
set_option maxRecDepth 100000 in
/-- which part covers x -/
theorem qNr_partOf (l : Launch) (D : va_G) (cI cP : ClassId) (a : Nat → Nat) (σ : nSt) (x : Int32) : gx_Mp l yNr_partOf (Cond.code yNr_partOf cNr_partOf 3 (some .int) :: gW) (gR 2) D gC (nrT cI cP) (nrW cI cP a σ) [.ref (a 0), .int x] (pOf σ x) := by
  refine gx_Mp.of (cc := cNr_partOf) (maxL := 3) (ret := (some .int)) (by decide) rfl (Nat.le_of_ble_eq_true rfl) ?_
  intro p e s m args below meth c ls E hK hP hD hl
  obtain ⟨hx, hb, hr, hml, hts, hown, hlocks, hnm⟩ := id E
  have hg : ∀ w ∈ gW, w.before args s = true := fun w h => hts w (List.mem_cons_of_mem _ h)
  have hown : s.vm.findClass "NurseryRow" = some m.cls := hown
  have hl : lv_has ls 3 [(0, .ref (a 0)), (1, .int x)] := hl
  refine lv_iconst (v := 0) hx hb dNr_partOf_0 (by decide) ?_
  refine lv_istore_n (lv' := [(2, .int 0), (0, .ref (a 0)), (1, .int x)]) hx hb dNr_partOf_1 rfl hl (by decide) rfl (fun ls hl => ?_)
  refine lv_iload_n hx hb dNr_partOf_2 rfl (lv_at hl 0 rfl) ?_
  refine lv_iconst (v := 4) hx hb dNr_partOf_3 (by decide) ?_
  refine lv_icmp_ge (tgt := 28) hx hb dNr_partOf_4 (by decide) (fun c_4 => ?_) (fun c_4 => ?_)
  · exact absurd c_4 (by decide)
  · refine lv_aload_n hx hb dNr_partOf_7 rfl (lv_at hl 1 rfl) ?_
    refine va_get (C := RNr) (T := TNr) (N := 10) (ci := 1) (v := .ref (a 1)) hx hb hg inNr hown hK hP 0 rfl rfl 0 (by decide) (hg _ f_Nr_11) (fun _ h9 => h9) rfl dNr_partOf_8 ?_
    refine lv_iload_n hx hb dNr_partOf_11 rfl (lv_at hl 0 rfl) ?_
    refine va_aldq hx hb hK hP 1 1 rfl rfl (by unfold vp_in; decide) dNr_partOf_12 ?_
    refine gx_stk (st' := [.ref (a (2 + 0))]) rfl ?_
    refine lv_iload_n hx hb dNr_partOf_13 rfl (lv_at hl 2 rfl) ?_
    refine gx_callp (C := "NurseryRow$Part") (As := [.int x]) (rest := []) E (nr_liftp (i := 0) (by decide) (qPt_covers l D _ (a (2 + 0)) (σ.p 0) x)) (gx_cwV hts l_Nr_153 k_Pt_covers ki_Pt_covers ke_Pt_covers z_Pt n_Pt_covers ⟨by decide, by decide⟩) hK hP hD (va_recv hK hP (ci := 0) (q0 := 2) rfl rfl) hl.1 rfl rfl (Nat.le_of_ble_eq_true rfl) ⟨Nat.zero_le _, Nat.zero_le _⟩ dNr_partOf_14 ?_
    refine gx_top (z := ptCov (σ.P 0 0) (σ.P 0 2) x) rfl ?_
    refine lv_if_eq (tgt := 22) hx hb dNr_partOf_17 (by decide) (fun c_17 => ?_) (fun c_17 => ?_)
    · refine lv_iinc (v := 1) (lv' := [(2, .int 1), (0, .ref (a 0)), (1, .int x)]) hx hb dNr_partOf_22 hl (k := 0) rfl (by decide) (by decide) rfl (fun ls hl => ?_)
      refine lv_goto (tgt := 2) hx hb dNr_partOf_25 (by decide) ?_
      refine lv_iload_n hx hb dNr_partOf_2 rfl (lv_at hl 0 rfl) ?_
      refine lv_iconst (v := 4) hx hb dNr_partOf_3 (by decide) ?_
      refine lv_icmp_ge (tgt := 28) hx hb dNr_partOf_4 (by decide) (fun c_4' => ?_) (fun c_4' => ?_)
      · exact absurd c_4' (by decide)
      · refine lv_aload_n hx hb dNr_partOf_7 rfl (lv_at hl 1 rfl) ?_
        refine va_get (C := RNr) (T := TNr) (N := 10) (ci := 1) (v := .ref (a 1)) hx hb hg inNr hown hK hP 0 rfl rfl 0 (by decide) (hg _ f_Nr_11) (fun _ h9 => h9) rfl dNr_partOf_8 ?_
        refine lv_iload_n hx hb dNr_partOf_11 rfl (lv_at hl 0 rfl) ?_
        refine va_aldq hx hb hK hP 1 1 rfl rfl (by unfold vp_in; decide) dNr_partOf_12 ?_
        refine gx_stk (st' := [.ref (a (2 + 1))]) rfl ?_
        refine lv_iload_n hx hb dNr_partOf_13 rfl (lv_at hl 2 rfl) ?_
        refine gx_callp (C := "NurseryRow$Part") (As := [.int x]) (rest := []) E (nr_liftp (i := 1) (by decide) (qPt_covers l D _ (a (2 + 1)) (σ.p 1) x)) (gx_cwV hts l_Nr_153 k_Pt_covers ki_Pt_covers ke_Pt_covers z_Pt n_Pt_covers ⟨by decide, by decide⟩) hK hP hD (va_recv hK hP (ci := 0) (q0 := 3) rfl rfl) hl.1 rfl rfl (Nat.le_of_ble_eq_true rfl) ⟨Nat.zero_le _, Nat.zero_le _⟩ dNr_partOf_14 ?_
        refine gx_top (z := ptCov (σ.P 1 0) (σ.P 1 2) x) rfl ?_
        refine lv_if_eq (tgt := 22) hx hb dNr_partOf_17 (by decide) (fun c_17' => ?_) (fun c_17' => ?_)
        · refine lv_iinc (v := 2) (lv' := [(2, .int 2), (0, .ref (a 0)), (1, .int x)]) hx hb dNr_partOf_22 hl (k := 0) rfl (by decide) (by decide) rfl (fun ls hl => ?_)
          refine lv_goto (tgt := 2) hx hb dNr_partOf_25 (by decide) ?_
          refine lv_iload_n hx hb dNr_partOf_2 rfl (lv_at hl 0 rfl) ?_
          refine lv_iconst (v := 4) hx hb dNr_partOf_3 (by decide) ?_
          refine lv_icmp_ge (tgt := 28) hx hb dNr_partOf_4 (by decide) (fun c_4'' => ?_) (fun c_4'' => ?_)
          · exact absurd c_4'' (by decide)
          · refine lv_aload_n hx hb dNr_partOf_7 rfl (lv_at hl 1 rfl) ?_
            refine va_get (C := RNr) (T := TNr) (N := 10) (ci := 1) (v := .ref (a 1)) hx hb hg inNr hown hK hP 0 rfl rfl 0 (by decide) (hg _ f_Nr_11) (fun _ h9 => h9) rfl dNr_partOf_8 ?_
            refine lv_iload_n hx hb dNr_partOf_11 rfl (lv_at hl 0 rfl) ?_
            refine va_aldq hx hb hK hP 1 1 rfl rfl (by unfold vp_in; decide) dNr_partOf_12 ?_
            refine gx_stk (st' := [.ref (a (2 + 2))]) rfl ?_
            refine lv_iload_n hx hb dNr_partOf_13 rfl (lv_at hl 2 rfl) ?_
            refine gx_callp (C := "NurseryRow$Part") (As := [.int x]) (rest := []) E (nr_liftp (i := 2) (by decide) (qPt_covers l D _ (a (2 + 2)) (σ.p 2) x)) (gx_cwV hts l_Nr_153 k_Pt_covers ki_Pt_covers ke_Pt_covers z_Pt n_Pt_covers ⟨by decide, by decide⟩) hK hP hD (va_recv hK hP (ci := 0) (q0 := 4) rfl rfl) hl.1 rfl rfl (Nat.le_of_ble_eq_true rfl) ⟨Nat.zero_le _, Nat.zero_le _⟩ dNr_partOf_14 ?_
            refine gx_top (z := ptCov (σ.P 2 0) (σ.P 2 2) x) rfl ?_
            refine lv_if_eq (tgt := 22) hx hb dNr_partOf_17 (by decide) (fun c_17'' => ?_) (fun c_17'' => ?_)
            · refine lv_iinc (v := 3) (lv' := [(2, .int 3), (0, .ref (a 0)), (1, .int x)]) hx hb dNr_partOf_22 hl (k := 0) rfl (by decide) (by decide) rfl (fun ls hl => ?_)
              refine lv_goto (tgt := 2) hx hb dNr_partOf_25 (by decide) ?_
              refine lv_iload_n hx hb dNr_partOf_2 rfl (lv_at hl 0 rfl) ?_
              refine lv_iconst (v := 4) hx hb dNr_partOf_3 (by decide) ?_
              refine lv_icmp_ge (tgt := 28) hx hb dNr_partOf_4 (by decide) (fun c_4''' => ?_) (fun c_4''' => ?_)
              · exact absurd c_4''' (by decide)
              · refine lv_aload_n hx hb dNr_partOf_7 rfl (lv_at hl 1 rfl) ?_
                refine va_get (C := RNr) (T := TNr) (N := 10) (ci := 1) (v := .ref (a 1)) hx hb hg inNr hown hK hP 0 rfl rfl 0 (by decide) (hg _ f_Nr_11) (fun _ h9 => h9) rfl dNr_partOf_8 ?_
                refine lv_iload_n hx hb dNr_partOf_11 rfl (lv_at hl 0 rfl) ?_
                refine va_aldq hx hb hK hP 1 1 rfl rfl (by unfold vp_in; decide) dNr_partOf_12 ?_
                refine gx_stk (st' := [.ref (a (2 + 3))]) rfl ?_
                refine lv_iload_n hx hb dNr_partOf_13 rfl (lv_at hl 2 rfl) ?_
                refine gx_callp (C := "NurseryRow$Part") (As := [.int x]) (rest := []) E (nr_liftp (i := 3) (by decide) (qPt_covers l D _ (a (2 + 3)) (σ.p 3) x)) (gx_cwV hts l_Nr_153 k_Pt_covers ki_Pt_covers ke_Pt_covers z_Pt n_Pt_covers ⟨by decide, by decide⟩) hK hP hD (va_recv hK hP (ci := 0) (q0 := 5) rfl rfl) hl.1 rfl rfl (Nat.le_of_ble_eq_true rfl) ⟨Nat.zero_le _, Nat.zero_le _⟩ dNr_partOf_14 ?_
                refine gx_top (z := ptCov (σ.P 3 0) (σ.P 3 2) x) rfl ?_
                refine lv_if_eq (tgt := 22) hx hb dNr_partOf_17 (by decide) (fun c_17''' => ?_) (fun c_17''' => ?_)
                · refine lv_iinc (v := 4) (lv' := [(2, .int 4), (0, .ref (a 0)), (1, .int x)]) hx hb dNr_partOf_22 hl (k := 0) rfl (by decide) (by decide) rfl (fun ls hl => ?_)
                  refine lv_goto (tgt := 2) hx hb dNr_partOf_25 (by decide) ?_
                  refine lv_iload_n hx hb dNr_partOf_2 rfl (lv_at hl 0 rfl) ?_
                  refine lv_iconst (v := 4) hx hb dNr_partOf_3 (by decide) ?_
                  refine lv_icmp_ge (tgt := 28) hx hb dNr_partOf_4 (by decide) (fun c_4'''' => ?_) (fun c_4'''' => ?_)
                  · refine lv_iconst (v := 4) hx hb dNr_partOf_28 (by decide) ?_
                    exact gx_pret E (by simp [pOf, c_4, c_17, c_4', c_17', c_4'', c_17'', c_4''', c_17''', c_4'''']) dNr_partOf_29
                  · exact absurd c_4'''' (by decide)
                · refine lv_iload_n hx hb dNr_partOf_20 rfl (lv_at hl 0 rfl) ?_
                  exact gx_pret E (by simp [pOf, c_4, c_17, c_4', c_17', c_4'', c_17'', c_4''', c_17''']) dNr_partOf_21
            · refine lv_iload_n hx hb dNr_partOf_20 rfl (lv_at hl 0 rfl) ?_
              exact gx_pret E (by simp [pOf, c_4, c_17, c_4', c_17', c_4'', c_17'']) dNr_partOf_21
        · refine lv_iload_n hx hb dNr_partOf_20 rfl (lv_at hl 0 rfl) ?_
          exact gx_pret E (by simp [pOf, c_4, c_17, c_4', c_17']) dNr_partOf_21
    · refine lv_iload_n hx hb dNr_partOf_20 rfl (lv_at hl 0 rfl) ?_
      exact gx_pret E (by simp [pOf, c_4, c_17]) dNr_partOf_21
/-- the first object from part i on -/
def fF (σ : nSt) (i : Nat) : Int32 := match i with
  | 0 => if σ.P 0 3 ≤ 0 then (if σ.P 1 3 ≤ 0 then (if σ.P 2 3 ≤ 0 then (if σ.P 3 3 ≤ 0 then 0 else σ.P 3 0) else σ.P 2 0) else σ.P 1 0) else σ.P 0 0
  | 1 => if σ.P 1 3 ≤ 0 then (if σ.P 2 3 ≤ 0 then (if σ.P 3 3 ≤ 0 then 0 else σ.P 3 0) else σ.P 2 0) else σ.P 1 0
  | 2 => if σ.P 2 3 ≤ 0 then (if σ.P 3 3 ≤ 0 then 0 else σ.P 3 0) else σ.P 2 0
  | 3 => if σ.P 3 3 ≤ 0 then 0 else σ.P 3 0
  | _ => 0
