/-! THE PARTS' METHODS: [first, cells, used, objects] -/
/-- is x among the used cells? -/
def ptCov (f us x : Int32) : Int32 := if x < f then 0 else if f + us ≤ x then 0 else 1
set_option maxHeartbeats 4000000 in
set_option maxRecDepth 100000 in
/-- how many cells are free -/
theorem qPt_free (l : Launch) (D : va_G) (tys : List (ClassId × FieldType)) (h : Nat) (u : pSt) : gx_Mp l yPt_free (Cond.code yPt_free cPt_free 1 (some .int) :: gW) (gR 0) D gC tys (ptW h u) [.ref h] (u.2.1 - u.2.2.1) := by
  refine gx_Mp.of (cc := cPt_free) (maxL := 1) (ret := (some .int)) (by decide) rfl (Nat.le_of_ble_eq_true rfl) ?_
  intro p e s m args below meth c ls E hK hP hD hl
  obtain ⟨hx, hb, hr, hml, hts, hown, hlocks, hnm⟩ := id E
  have hg : ∀ w ∈ gW, w.before args s = true := fun w h => hts w (List.mem_cons_of_mem _ h)
  have hown : s.vm.findClass "NurseryRow$Part" = some m.cls := hown
  have hl : lv_has ls 1 [(0, .ref h)] := hl
  refine lv_aload_n hx hb dPt_free_0 rfl (lv_at hl 0 rfl) ?_
  refine va_get (C := RPt) (T := TPt) (N := 4) (ci := 0) (v := .int u.2.1) hx hb hg inPt hown hK hP 0 rfl rfl 1 (by decide) (hg _ f_Pt_13) (fun _ h9 => h9) rfl dPt_free_1 ?_
  refine lv_aload_n hx hb dPt_free_4 rfl (lv_at hl 0 rfl) ?_
  refine va_get (C := RPt) (T := TPt) (N := 4) (ci := 0) (v := .int u.2.2.1) hx hb hg inPt hown hK hP 0 rfl rfl 2 (by decide) (hg _ f_Pt_19) (fun _ h9 => h9) rfl dPt_free_5 ?_
  refine lv_isub hx hb dPt_free_8 ?_
  exact gx_pret E rfl dPt_free_9
set_option maxHeartbeats 4000000 in
set_option maxRecDepth 100000 in
/-- the first cell that isn't used -/
theorem qPt_end (l : Launch) (D : va_G) (tys : List (ClassId × FieldType)) (h : Nat) (u : pSt) : gx_Mp l yPt_end (Cond.code yPt_end cPt_end 1 (some .int) :: gW) (gR 0) D gC tys (ptW h u) [.ref h] (u.1 + u.2.2.1) := by
  refine gx_Mp.of (cc := cPt_end) (maxL := 1) (ret := (some .int)) (by decide) rfl (Nat.le_of_ble_eq_true rfl) ?_
  intro p e s m args below meth c ls E hK hP hD hl
  obtain ⟨hx, hb, hr, hml, hts, hown, hlocks, hnm⟩ := id E
  have hg : ∀ w ∈ gW, w.before args s = true := fun w h => hts w (List.mem_cons_of_mem _ h)
  have hown : s.vm.findClass "NurseryRow$Part" = some m.cls := hown
  have hl : lv_has ls 1 [(0, .ref h)] := hl
  refine lv_aload_n hx hb dPt_end_0 rfl (lv_at hl 0 rfl) ?_
  refine va_get (C := RPt) (T := TPt) (N := 4) (ci := 0) (v := .int u.1) hx hb hg inPt hown hK hP 0 rfl rfl 0 (by decide) (hg _ f_Pt_7) (fun _ h9 => h9) rfl dPt_end_1 ?_
  refine lv_aload_n hx hb dPt_end_4 rfl (lv_at hl 0 rfl) ?_
  refine va_get (C := RPt) (T := TPt) (N := 4) (ci := 0) (v := .int u.2.2.1) hx hb hg inPt hown hK hP 0 rfl rfl 2 (by decide) (hg _ f_Pt_19) (fun _ h9 => h9) rfl dPt_end_5 ?_
  refine lv_iadd hx hb dPt_end_8 ?_
  exact gx_pret E rfl dPt_end_9
set_option maxHeartbeats 4000000 in
set_option maxRecDepth 100000 in
/-- is x among the used cells? -/
theorem qPt_covers (l : Launch) (D : va_G) (tys : List (ClassId × FieldType)) (h : Nat) (u : pSt) (x : Int32) : gx_Mp l yPt_covers (Cond.code yPt_covers cPt_covers 2 (some .boolean) :: gW) (gR 1) D gC tys (ptW h u) [.ref h, .int x] (ptCov u.1 u.2.2.1 x) := by
  refine gx_Mp.of (cc := cPt_covers) (maxL := 2) (ret := (some .boolean)) (by decide) rfl (Nat.le_of_ble_eq_true rfl) ?_
  intro p e s m args below meth c ls E hK hP hD hl
  obtain ⟨hx, hb, hr, hml, hts, hown, hlocks, hnm⟩ := id E
  have hg : ∀ w ∈ gW, w.before args s = true := fun w h => hts w (List.mem_cons_of_mem _ h)
  have hown : s.vm.findClass "NurseryRow$Part" = some m.cls := hown
  have hl : lv_has ls 2 [(0, .ref h), (1, .int x)] := hl
  refine lv_iload_n hx hb dPt_covers_0 rfl (lv_at hl 1 rfl) ?_
  refine lv_aload_n hx hb dPt_covers_1 rfl (lv_at hl 0 rfl) ?_
  refine va_get (C := RPt) (T := TPt) (N := 4) (ci := 0) (v := .int u.1) hx hb hg inPt hown hK hP 0 rfl rfl 0 (by decide) (hg _ f_Pt_7) (fun _ h9 => h9) rfl dPt_covers_2 ?_
  refine lv_icmp_lt (tgt := 20) hx hb dPt_covers_5 (by decide) (fun c_5 => ?_) (fun c_5 => ?_)
  · refine lv_iconst (v := 0) hx hb dPt_covers_20 (by decide) ?_
    exact gx_zret E rfl (by simp [ptCov, c_5]) dPt_covers_21
  · refine lv_iload_n hx hb dPt_covers_8 rfl (lv_at hl 1 rfl) ?_
    refine lv_aload_n hx hb dPt_covers_9 rfl (lv_at hl 0 rfl) ?_
    refine gx_callp (C := "NurseryRow$Part") (As := []) (rest := [.int x]) E (qPt_end l D tys h u) (gx_cwV hts l_Pt_25 k_Pt_end ki_Pt_end ke_Pt_end z_Pt n_Pt_end ⟨by decide, by decide⟩) hK hP hD (va_recv hK hP (ci := 0) (q0 := 0) rfl rfl) hl.1 rfl rfl (Nat.le_of_ble_eq_true rfl) ⟨Nat.zero_le _, Nat.zero_le _⟩ dPt_covers_10 ?_
    refine lv_icmp_ge (tgt := 20) hx hb dPt_covers_13 (by decide) (fun c_13 => ?_) (fun c_13 => ?_)
    · refine lv_iconst (v := 0) hx hb dPt_covers_20 (by decide) ?_
      exact gx_zret E rfl (by simp [ptCov, c_5, c_13]) dPt_covers_21
    · refine lv_iconst (v := 1) hx hb dPt_covers_16 (by decide) ?_
      refine lv_goto (tgt := 21) hx hb dPt_covers_17 (by decide) ?_
      exact gx_zret E rfl (by simp [ptCov, c_5, c_13]) dPt_covers_21
set_option maxHeartbeats 4000000 in
set_option maxRecDepth 100000 in
/-- nothing is used -/
theorem qPt_empty (l : Launch) (D : va_G) (tys : List (ClassId × FieldType)) (h : Nat) (u : pSt) : gx_Mv l yPt_empty (Cond.code yPt_empty cPt_empty 1 none :: gW) (gR 0) D gC tys (ptW h) u [.ref h] (fun v => v = (u.1, u.2.1, 0, 0)) := by
  refine gx_Mv.of (cc := cPt_empty) (maxL := 1) (by decide) rfl (Nat.le_of_ble_eq_true rfl) ?_
  intro p e s m args below meth c ls A E hA hK hP hD hS hl
  obtain ⟨hx, hb, hr, hml, hts, hown, hlocks, hnm⟩ := id E
  have hg : ∀ w ∈ gW, w.before args s = true := fun w h => hts w (List.mem_cons_of_mem _ h)
  have hown : s.vm.findClass "NurseryRow$Part" = some m.cls := hown
  have hl : lv_has ls 1 [(0, .ref h)] := hl
  refine lv_aload_n hx hb dPt_empty_0 rfl (lv_at hl 0 rfl) ?_
  refine lv_iconst (v := 0) hx hb dPt_empty_1 (by decide) ?_
  refine va_put (C := RPt) (T := TPt) (N := 4) (ci := 0) (v := .int 0) hx hb hg inPt tyPt tyPt_ok nmPt hown hK hP hD hS 0 rfl rfl 2 (by decide) (hg _ f_Pt_19) (fun _ h9 => h9) rfl (tyPt_ok 2 (by decide)) rfl rfl (Nat.le_of_ble_eq_true rfl) dPt_empty_2 (fun H locs hP hD hS => ?_)
  have hP : va_P D gC (ptW h (u.1, u.2.1, 0, u.2.2.2)) H := hP
  have hD : va_D A (ptW h (u.1, u.2.1, 0, u.2.2.2)) := hD
  refine lv_aload_n hx hb dPt_empty_5 rfl (lv_at hl 0 rfl) ?_
  refine lv_iconst (v := 0) hx hb dPt_empty_6 (by decide) ?_
  refine va_put (C := RPt) (T := TPt) (N := 4) (ci := 0) (v := .int 0) hx hb hg inPt tyPt tyPt_ok nmPt hown hK hP hD hS 0 rfl rfl 3 (by decide) (hg _ f_Pt_22) (fun _ h9 => h9) rfl (tyPt_ok 3 (by decide)) rfl rfl (Nat.le_of_ble_eq_true rfl) dPt_empty_7 (fun H locs hP hD hS => ?_)
  have hP : va_P D gC (ptW h (u.1, u.2.1, 0, 0)) H := hP
  have hD : va_D A (ptW h (u.1, u.2.1, 0, 0)) := hD
  exact gx_vret (u := (u.1, u.2.1, 0, 0)) E hK hP hD hS rfl dPt_empty_10
set_option maxHeartbeats 4000000 in
set_option maxRecDepth 100000 in
/-- where it lies, and how many cells it has -/
theorem qPt_lay (l : Launch) (D : va_G) (tys : List (ClassId × FieldType)) (h : Nat) (u : pSt) (x : Int32) (y : Int32) : gx_Mv l yPt_lay (Cond.code yPt_lay cPt_lay 3 none :: gW) (gR 1) D gC tys (ptW h) u [.ref h, .int x, .int y] (fun v => v = (x, y, 0, 0)) := by
  refine gx_Mv.of (cc := cPt_lay) (maxL := 3) (by decide) rfl (Nat.le_of_ble_eq_true rfl) ?_
  intro p e s m args below meth c ls A E hA hK hP hD hS hl
  obtain ⟨hx, hb, hr, hml, hts, hown, hlocks, hnm⟩ := id E
  have hg : ∀ w ∈ gW, w.before args s = true := fun w h => hts w (List.mem_cons_of_mem _ h)
  have hown : s.vm.findClass "NurseryRow$Part" = some m.cls := hown
  have hl : lv_has ls 3 [(0, .ref h), (1, .int x), (2, .int y)] := hl
  refine lv_aload_n hx hb dPt_lay_0 rfl (lv_at hl 0 rfl) ?_
  refine lv_iload_n hx hb dPt_lay_1 rfl (lv_at hl 1 rfl) ?_
  refine va_put (C := RPt) (T := TPt) (N := 4) (ci := 0) (v := .int x) hx hb hg inPt tyPt tyPt_ok nmPt hown hK hP hD hS 0 rfl rfl 0 (by decide) (hg _ f_Pt_7) (fun _ h9 => h9) rfl (tyPt_ok 0 (by decide)) rfl rfl (Nat.le_of_ble_eq_true rfl) dPt_lay_2 (fun H locs hP hD hS => ?_)
  have hP : va_P D gC (ptW h (x, u.2.1, u.2.2.1, u.2.2.2)) H := hP
  have hD : va_D A (ptW h (x, u.2.1, u.2.2.1, u.2.2.2)) := hD
  refine lv_aload_n hx hb dPt_lay_5 rfl (lv_at hl 0 rfl) ?_
  refine lv_iload_n hx hb dPt_lay_6 rfl (lv_at hl 2 rfl) ?_
  refine va_put (C := RPt) (T := TPt) (N := 4) (ci := 0) (v := .int y) hx hb hg inPt tyPt tyPt_ok nmPt hown hK hP hD hS 0 rfl rfl 1 (by decide) (hg _ f_Pt_13) (fun _ h9 => h9) rfl (tyPt_ok 1 (by decide)) rfl rfl (Nat.le_of_ble_eq_true rfl) dPt_lay_7 (fun H locs hP hD hS => ?_)
  have hP : va_P D gC (ptW h (x, y, u.2.2.1, u.2.2.2)) H := hP
  have hD : va_D A (ptW h (x, y, u.2.2.1, u.2.2.2)) := hD
  refine lv_aload_n hx hb dPt_lay_10 rfl (lv_at hl 0 rfl) ?_
  refine gx_callv (C := "NurseryRow$Part") (As := []) (rest := []) E (qPt_empty l D tys h (x, y, u.2.2.1, u.2.2.2)) (gx_cwV hts l_Pt_16 k_Pt_empty ki_Pt_empty ke_Pt_empty z_Pt n_Pt_empty ⟨by decide, by decide⟩) hK hP hD hS hA (va_recv hK hP (ci := 0) (q0 := 0) rfl rfl) hl.1 rfl rfl (Nat.le_of_ble_eq_true rfl) ⟨by decide, by decide⟩ dPt_lay_11 (fun u_2 H locs hq_3 hP hD hS => ?_)
  subst hq_3
  have hP : va_P D gC (ptW h (x, y, 0, 0)) H := hP
  have hD : va_D A (ptW h (x, y, 0, 0)) := hD
  exact gx_vret (u := (x, y, 0, 0)) E hK hP hD hS rfl dPt_lay_14
set_option maxHeartbeats 4000000 in
set_option maxRecDepth 100000 in
/-- the next x cells -/
theorem qPt_take (l : Launch) (D : va_G) (tys : List (ClassId × FieldType)) (h : Nat) (u : pSt) (x : Int32) : gx_Mi l yPt_take (Cond.code yPt_take cPt_take 3 (some .int) :: gW) (gR 1) D gC tys (ptW h) u [.ref h, .int x] (fun r v => r = u.1 + u.2.2.1 ∧ v = (u.1, u.2.1, u.2.2.1 + x, u.2.2.2 + 1)) := by
  refine gx_Mi.of (cc := cPt_take) (maxL := 3) (ret := (some .int)) (by decide) rfl (Nat.le_of_ble_eq_true rfl) ?_
  intro p e s m args below meth c ls A E hA hK hP hD hS hl
  obtain ⟨hx, hb, hr, hml, hts, hown, hlocks, hnm⟩ := id E
  have hg : ∀ w ∈ gW, w.before args s = true := fun w h => hts w (List.mem_cons_of_mem _ h)
  have hown : s.vm.findClass "NurseryRow$Part" = some m.cls := hown
  have hl : lv_has ls 3 [(0, .ref h), (1, .int x)] := hl
  refine lv_aload_n hx hb dPt_take_0 rfl (lv_at hl 0 rfl) ?_
  refine gx_callp (C := "NurseryRow$Part") (As := []) (rest := []) E (qPt_end l D tys h (u.1, u.2.1, u.2.2.1, u.2.2.2)) (gx_cwV hts l_Pt_25 k_Pt_end ki_Pt_end ke_Pt_end z_Pt n_Pt_end ⟨by decide, by decide⟩) hK hP hD (va_recv hK hP (ci := 0) (q0 := 0) rfl rfl) hl.1 rfl rfl (Nat.le_of_ble_eq_true rfl) ⟨Nat.zero_le _, Nat.zero_le _⟩ dPt_take_1 ?_
  refine lv_istore_n (lv' := [(2, .int (u.1 + u.2.2.1)), (0, .ref h), (1, .int x)]) hx hb dPt_take_4 rfl hl (by decide) rfl (fun ls hl => ?_)
  refine lv_aload_n hx hb dPt_take_5 rfl (lv_at hl 1 rfl) ?_
  refine lv_dup hx hb dPt_take_6 rfl ?_
  refine va_get (C := RPt) (T := TPt) (N := 4) (ci := 0) (v := .int u.2.2.1) hx hb hg inPt hown hK hP 0 rfl rfl 2 (by decide) (hg _ f_Pt_19) (fun _ h9 => h9) rfl dPt_take_7 ?_
  refine lv_iload_n hx hb dPt_take_10 rfl (lv_at hl 2 rfl) ?_
  refine lv_iadd hx hb dPt_take_11 ?_
  refine va_put (C := RPt) (T := TPt) (N := 4) (ci := 0) (v := .int (u.2.2.1 + x)) hx hb hg inPt tyPt tyPt_ok nmPt hown hK hP hD hS 0 rfl rfl 2 (by decide) (hg _ f_Pt_19) (fun _ h9 => h9) rfl (tyPt_ok 2 (by decide)) rfl rfl (Nat.le_of_ble_eq_true rfl) dPt_take_12 (fun H locs hP hD hS => ?_)
  have hP : va_P D gC (ptW h (u.1, u.2.1, u.2.2.1 + x, u.2.2.2)) H := hP
  have hD : va_D A (ptW h (u.1, u.2.1, u.2.2.1 + x, u.2.2.2)) := hD
  refine lv_aload_n hx hb dPt_take_15 rfl (lv_at hl 1 rfl) ?_
  refine lv_dup hx hb dPt_take_16 rfl ?_
  refine va_get (C := RPt) (T := TPt) (N := 4) (ci := 0) (v := .int u.2.2.2) hx hb hg inPt hown hK hP 0 rfl rfl 3 (by decide) (hg _ f_Pt_22) (fun _ h9 => h9) rfl dPt_take_17 ?_
  refine lv_iconst (v := 1) hx hb dPt_take_20 (by decide) ?_
  refine lv_iadd hx hb dPt_take_21 ?_
  refine va_put (C := RPt) (T := TPt) (N := 4) (ci := 0) (v := .int (u.2.2.2 + 1)) hx hb hg inPt tyPt tyPt_ok nmPt hown hK hP hD hS 0 rfl rfl 3 (by decide) (hg _ f_Pt_22) (fun _ h9 => h9) rfl (tyPt_ok 3 (by decide)) rfl rfl (Nat.le_of_ble_eq_true rfl) dPt_take_22 (fun H locs hP hD hS => ?_)
  have hP : va_P D gC (ptW h (u.1, u.2.1, u.2.2.1 + x, u.2.2.2 + 1)) H := hP
  have hD : va_D A (ptW h (u.1, u.2.1, u.2.2.1 + x, u.2.2.2 + 1)) := hD
  refine lv_iload_n hx hb dPt_take_25 rfl (lv_at hl 0 rfl) ?_
  exact gx_iret (u := (u.1, u.2.1, u.2.2.1 + x, u.2.2.2 + 1)) E hK hP hD hS ⟨rfl, rfl⟩ dPt_take_26
