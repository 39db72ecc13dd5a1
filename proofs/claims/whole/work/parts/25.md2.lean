/-! THE REFERENCE: what it tells, and its public methods (ok: as far as the call goes on; no: it throws) -/
/-- what a number v tells: an address -/
def toM (μ : mSt) (v : Int32) : Int32 := if v = 0 then 0 else μ.A 5 (v - 1).toNatClampNeg
/-- v tells nothing, or an object -/
def toOk (v : Int32) : Prop := v = 0 ∨ ∃ k, k < 3600 ∧ v = nI (k + 1)
theorem toOk.ne {v : Int32} (h : toOk v) (hv : ¬ v = 0) : ∃ k, k < 3600 ∧ v - 1 = nI k := by
  rcases h with h | ⟨k, hk, rfl⟩
  · exact absurd h hv
  · exact ⟨k, hk, nI_pred k⟩
theorem objR.ne {μ : mSt} {x r : Int32} (h : objR μ x r) (hr : ¬ r < 0) : ∃ k, k < 3600 ∧ r = nI k := by
  rcases h with ⟨k, hk, -, -, -, rfl⟩ | ⟨-, rfl⟩
  · exact ⟨k, hk, rfl⟩
  · exact absurd (by decide) hr
/-- where a field's number lies; -1 if there is none; ko: the object's number -/
def flM (μ : mSt) (ko f : Int32) : Int32 := if ko < 0 then -1 else if f < 0 then -1 else if μ.A 7 ko.toNatClampNeg ≤ f then -1 else μ.A 9 ko.toNatClampNeg + f
def wlM (μ : mSt) (ko f : Int32) : Int32 := if ko < 0 then -1 else if f < 0 then -1 else if μ.A 8 ko.toNatClampNeg ≤ f then -1 else μ.A 9 ko.toNatClampNeg + μ.A 7 ko.toNatClampNeg + f
set_option maxHeartbeats 4000000 in
set_option maxRecDepth 100000 in
/-- what v tells -/
theorem qMd_told (l : Launch) (D : va_G) (cI cZ : ClassId) (b : Nat → Nat) (μ : mSt) (v : Int32) (h : toOk v) : gx_Mp l yMd_told (Cond.code yMd_told cMd_told 2 (some .int) :: gW) (gR 0) D gC (mdT cI cZ) (mdW cI cZ b μ) [.ref (b 0), .int v] (toM μ v) := by
  refine gx_Mp.of (cc := cMd_told) (maxL := 2) (ret := (some .int)) (by decide) rfl (Nat.le_of_ble_eq_true rfl) ?_
  intro p e s m args below meth c ls E hK hP hD hl
  obtain ⟨hx, hb, hr, hml, hts, hown, hlocks, hnm⟩ := id E
  have hg : ∀ w ∈ gW, w.before args s = true := fun w h => hts w (List.mem_cons_of_mem _ h)
  have hown : s.vm.findClass "NurseryRowModel" = some m.cls := hown
  have hl : lv_has ls 2 [(0, .ref (b 0)), (1, .int v)] := hl
  refine lv_iload_n hx hb dMd_told_0 rfl (lv_at hl 1 rfl) ?_
  refine lv_if_ne (tgt := 8) hx hb dMd_told_1 (by decide) (fun c_1 => ?_) (fun c_1 => ?_)
  · obtain ⟨kt, hkt, hve⟩ := h.ne c_1
    refine lv_aload_n hx hb dMd_told_8 rfl (lv_at hl 0 rfl) ?_
    refine va_get (C := RMd) (T := TMd) (N := 25) (ci := 2) (v := .ref (b 6)) hx hb hg inMd hown hK hP 0 rfl rfl 8 (by decide) (hg _ f_Md_33) (fun _ h9 => h9) rfl dMd_told_9 ?_
    refine lv_iload_n hx hb dMd_told_12 rfl (lv_at hl 1 rfl) ?_
    refine lv_iconst (v := 1) hx hb dMd_told_13 (by decide) ?_
    refine lv_isub hx hb dMd_told_14 ?_
    refine va_iald hx hb hK hP 6 0 rfl rfl (by rw [hve]; exact vp_in_nI hkt (by decide)) dMd_told_15 ?_
    exact gx_pret E (by simp [toM, c_1]) dMd_told_16
  · refine lv_iconst (v := 0) hx hb dMd_told_4 (by decide) ?_
    refine lv_goto (tgt := 16) hx hb dMd_told_5 (by decide) ?_
    exact gx_pret E (by simp [toM, c_1]) dMd_told_16
set_option maxHeartbeats 4000000 in
set_option maxRecDepth 100000 in
/-- where it lies -/
theorem qMd_field (l : Launch) (D : va_G) (cI cZ : ClassId) (b : Nat → Nat) (μ : mSt) (x f ko : Int32) (h : objR μ x ko) : gx_Mp l yMd_field (Cond.code yMd_field cMd_field 4 (some .int) :: gW) (gR 1) D gC (mdT cI cZ) (mdW cI cZ b μ) [.ref (b 0), .int x, .int f] (flM μ ko f) := by
  refine gx_Mp.of (cc := cMd_field) (maxL := 4) (ret := (some .int)) (by decide) rfl (Nat.le_of_ble_eq_true rfl) ?_
  intro p e s m args below meth c ls E hK hP hD hl
  obtain ⟨hx, hb, hr, hml, hts, hown, hlocks, hnm⟩ := id E
  have hg : ∀ w ∈ gW, w.before args s = true := fun w h => hts w (List.mem_cons_of_mem _ h)
  have hown : s.vm.findClass "NurseryRowModel" = some m.cls := hown
  have hl : lv_has ls 4 [(0, .ref (b 0)), (1, .int x), (2, .int f)] := hl
  refine lv_aload_n hx hb dMd_field_0 rfl (lv_at hl 0 rfl) ?_
  refine lv_iload_n hx hb dMd_field_1 rfl (lv_at hl 1 rfl) ?_
  refine gx_callp (C := "NurseryRowModel") (As := [.int x]) (rest := []) E (qMd_object l D cI cZ b μ x ko h) (gx_cwV hts l_Md_96 k_Md_object ki_Md_object ke_Md_object z_Md n_Md_object ⟨by decide, by decide⟩) hK hP hD (va_recv hK hP (ci := 2) (q0 := 0) rfl rfl) hl.1 rfl rfl (Nat.le_of_ble_eq_true rfl) ⟨Nat.zero_le _, Nat.zero_le _⟩ dMd_field_2 ?_
  refine lv_istore_n (lv' := [(3, .int ko), (0, .ref (b 0)), (1, .int x), (2, .int f)]) hx hb dMd_field_5 rfl hl (by decide) rfl (fun ls hl => ?_)
  refine lv_iload_n hx hb dMd_field_6 rfl (lv_at hl 0 rfl) ?_
  refine lv_if_lt (tgt := 35) hx hb dMd_field_7 (by decide) (fun c_7 => ?_) (fun c_7 => ?_)
  · refine lv_iconst (v := (-1)) hx hb dMd_field_35 (by decide) ?_
    exact gx_pret E (by simp [flM, c_7]) dMd_field_36
  · obtain ⟨kk, hkl, hke⟩ := h.ne c_7
    refine lv_iload_n hx hb dMd_field_10 rfl (lv_at hl 3 rfl) ?_
    refine lv_if_lt (tgt := 35) hx hb dMd_field_11 (by decide) (fun c_11 => ?_) (fun c_11 => ?_)
    · refine lv_iconst (v := (-1)) hx hb dMd_field_35 (by decide) ?_
      exact gx_pret E (by simp [flM, c_7, c_11]) dMd_field_36
    · refine lv_iload_n hx hb dMd_field_14 rfl (lv_at hl 3 rfl) ?_
      refine lv_aload_n hx hb dMd_field_15 rfl (lv_at hl 1 rfl) ?_
      refine va_get (C := RMd) (T := TMd) (N := 25) (ci := 2) (v := .ref (b 8)) hx hb hg inMd hown hK hP 0 rfl rfl 10 (by decide) (hg _ f_Md_39) (fun _ h9 => h9) rfl dMd_field_16 ?_
      refine lv_iload_n hx hb dMd_field_19 rfl (lv_at hl 0 rfl) ?_
      refine va_iald hx hb hK hP 8 0 rfl rfl (by rw [hke]; exact vp_in_nI hkl (by decide)) dMd_field_20 ?_
      refine lv_icmp_ge (tgt := 35) hx hb dMd_field_21 (by decide) (fun c_21 => ?_) (fun c_21 => ?_)
      · refine lv_iconst (v := (-1)) hx hb dMd_field_35 (by decide) ?_
        exact gx_pret E (by simp [flM, c_7, c_11, c_21]) dMd_field_36
      · refine lv_aload_n hx hb dMd_field_24 rfl (lv_at hl 1 rfl) ?_
        refine va_get (C := RMd) (T := TMd) (N := 25) (ci := 2) (v := .ref (b 10)) hx hb hg inMd hown hK hP 0 rfl rfl 12 (by decide) (hg _ f_Md_45) (fun _ h9 => h9) rfl dMd_field_25 ?_
        refine lv_iload_n hx hb dMd_field_28 rfl (lv_at hl 0 rfl) ?_
        refine va_iald hx hb hK hP 10 0 rfl rfl (by rw [hke]; exact vp_in_nI hkl (by decide)) dMd_field_29 ?_
        refine lv_iload_n hx hb dMd_field_30 rfl (lv_at hl 3 rfl) ?_
        refine lv_iadd hx hb dMd_field_31 ?_
        refine lv_goto (tgt := 36) hx hb dMd_field_32 (by decide) ?_
        exact gx_pret E (by simp [flM, c_7, c_11, c_21]) dMd_field_36
set_option maxHeartbeats 4000000 in
set_option maxRecDepth 100000 in
/-- where it lies -/
theorem qMd_place (l : Launch) (D : va_G) (cI cZ : ClassId) (b : Nat → Nat) (μ : mSt) (x f ko : Int32) (h : objR μ x ko) : gx_Mp l yMd_place (Cond.code yMd_place cMd_place 4 (some .int) :: gW) (gR 1) D gC (mdT cI cZ) (mdW cI cZ b μ) [.ref (b 0), .int x, .int f] (wlM μ ko f) := by
  refine gx_Mp.of (cc := cMd_place) (maxL := 4) (ret := (some .int)) (by decide) rfl (Nat.le_of_ble_eq_true rfl) ?_
  intro p e s m args below meth c ls E hK hP hD hl
  obtain ⟨hx, hb, hr, hml, hts, hown, hlocks, hnm⟩ := id E
  have hg : ∀ w ∈ gW, w.before args s = true := fun w h => hts w (List.mem_cons_of_mem _ h)
  have hown : s.vm.findClass "NurseryRowModel" = some m.cls := hown
  have hl : lv_has ls 4 [(0, .ref (b 0)), (1, .int x), (2, .int f)] := hl
  refine lv_aload_n hx hb dMd_place_0 rfl (lv_at hl 0 rfl) ?_
  refine lv_iload_n hx hb dMd_place_1 rfl (lv_at hl 1 rfl) ?_
  refine gx_callp (C := "NurseryRowModel") (As := [.int x]) (rest := []) E (qMd_object l D cI cZ b μ x ko h) (gx_cwV hts l_Md_96 k_Md_object ki_Md_object ke_Md_object z_Md n_Md_object ⟨by decide, by decide⟩) hK hP hD (va_recv hK hP (ci := 2) (q0 := 0) rfl rfl) hl.1 rfl rfl (Nat.le_of_ble_eq_true rfl) ⟨Nat.zero_le _, Nat.zero_le _⟩ dMd_place_2 ?_
  refine lv_istore_n (lv' := [(3, .int ko), (0, .ref (b 0)), (1, .int x), (2, .int f)]) hx hb dMd_place_5 rfl hl (by decide) rfl (fun ls hl => ?_)
  refine lv_iload_n hx hb dMd_place_6 rfl (lv_at hl 0 rfl) ?_
  refine lv_if_lt (tgt := 42) hx hb dMd_place_7 (by decide) (fun c_7 => ?_) (fun c_7 => ?_)
  · refine lv_iconst (v := (-1)) hx hb dMd_place_42 (by decide) ?_
    exact gx_pret E (by simp [wlM, c_7]) dMd_place_43
  · obtain ⟨kk, hkl, hke⟩ := h.ne c_7
    refine lv_iload_n hx hb dMd_place_10 rfl (lv_at hl 3 rfl) ?_
    refine lv_if_lt (tgt := 42) hx hb dMd_place_11 (by decide) (fun c_11 => ?_) (fun c_11 => ?_)
    · refine lv_iconst (v := (-1)) hx hb dMd_place_42 (by decide) ?_
      exact gx_pret E (by simp [wlM, c_7, c_11]) dMd_place_43
    · refine lv_iload_n hx hb dMd_place_14 rfl (lv_at hl 3 rfl) ?_
      refine lv_aload_n hx hb dMd_place_15 rfl (lv_at hl 1 rfl) ?_
      refine va_get (C := RMd) (T := TMd) (N := 25) (ci := 2) (v := .ref (b 9)) hx hb hg inMd hown hK hP 0 rfl rfl 11 (by decide) (hg _ f_Md_42) (fun _ h9 => h9) rfl dMd_place_16 ?_
      refine lv_iload_n hx hb dMd_place_19 rfl (lv_at hl 0 rfl) ?_
      refine va_iald hx hb hK hP 9 0 rfl rfl (by rw [hke]; exact vp_in_nI hkl (by decide)) dMd_place_20 ?_
      refine lv_icmp_ge (tgt := 42) hx hb dMd_place_21 (by decide) (fun c_21 => ?_) (fun c_21 => ?_)
      · refine lv_iconst (v := (-1)) hx hb dMd_place_42 (by decide) ?_
        exact gx_pret E (by simp [wlM, c_7, c_11, c_21]) dMd_place_43
      · refine lv_aload_n hx hb dMd_place_24 rfl (lv_at hl 1 rfl) ?_
        refine va_get (C := RMd) (T := TMd) (N := 25) (ci := 2) (v := .ref (b 10)) hx hb hg inMd hown hK hP 0 rfl rfl 12 (by decide) (hg _ f_Md_45) (fun _ h9 => h9) rfl dMd_place_25 ?_
        refine lv_iload_n hx hb dMd_place_28 rfl (lv_at hl 0 rfl) ?_
        refine va_iald hx hb hK hP 10 0 rfl rfl (by rw [hke]; exact vp_in_nI hkl (by decide)) dMd_place_29 ?_
        refine lv_aload_n hx hb dMd_place_30 rfl (lv_at hl 1 rfl) ?_
        refine va_get (C := RMd) (T := TMd) (N := 25) (ci := 2) (v := .ref (b 8)) hx hb hg inMd hown hK hP 0 rfl rfl 10 (by decide) (hg _ f_Md_39) (fun _ h9 => h9) rfl dMd_place_31 ?_
        refine lv_iload_n hx hb dMd_place_34 rfl (lv_at hl 0 rfl) ?_
        refine va_iald hx hb hK hP 8 0 rfl rfl (by rw [hke]; exact vp_in_nI hkl (by decide)) dMd_place_35 ?_
        refine lv_iadd hx hb dMd_place_36 ?_
        refine lv_iload_n hx hb dMd_place_37 rfl (lv_at hl 3 rfl) ?_
        refine lv_iadd hx hb dMd_place_38 ?_
        refine lv_goto (tgt := 43) hx hb dMd_place_39 (by decide) ?_
        exact gx_pret E (by simp [wlM, c_7, c_11, c_21]) dMd_place_43
def layM (μ : mSt) (x y z : Int32) : mSt :=
  (((((((((((((((((((μ.sA 1 (upd (μ.A 1) 0 x)).sA 1 (upd (upd (μ.A 1) 0 x) 1 y)).sA 1 (upd (upd (upd (μ.A 1) 0 x) 1 y) 2 y)).sA 1 (upd (upd (upd (upd (μ.A 1) 0 x) 1 y) 2 y) 3 z)).sA 0 (upd (μ.A 0) 0 1)).sA 0 (upd (upd (μ.A 0) 0 1) 1 (1 + x))).sA 0 (upd (upd (upd (μ.A 0) 0 1) 1 (1 + x)) 2 ((1 + x) + y))).sA 0 (upd (upd (upd (upd (μ.A 0) 0 1) 1 (1 + x)) 2 ((1 + x) + y)) 3 (((1 + x) + y) + y))).sA 2 (upd (μ.A 2) 0 1)).sA 2 (upd (upd (μ.A 2) 0 1) 1 (1 + x))).sA 2 (upd (upd (upd (μ.A 2) 0 1) 1 (1 + x)) 2 ((1 + x) + y))).sA 2 (upd (upd (upd (upd (μ.A 2) 0 1) 1 (1 + x)) 2 ((1 + x) + y)) 3 (((1 + x) + y) + y))).sA 3 (fillF (((((((((((((μ.sA 1 (upd (μ.A 1) 0 x)).sA 1 (upd (upd (μ.A 1) 0 x) 1 y)).sA 1 (upd (upd (upd (μ.A 1) 0 x) 1 y) 2 y)).sA 1 (upd (upd (upd (upd (μ.A 1) 0 x) 1 y) 2 y) 3 z)).sA 0 (upd (μ.A 0) 0 1)).sA 0 (upd (upd (μ.A 0) 0 1) 1 (1 + x))).sA 0 (upd (upd (upd (μ.A 0) 0 1) 1 (1 + x)) 2 ((1 + x) + y))).sA 0 (upd (upd (upd (upd (μ.A 0) 0 1) 1 (1 + x)) 2 ((1 + x) + y)) 3 (((1 + x) + y) + y))).sA 2 (upd (μ.A 2) 0 1)).sA 2 (upd (upd (μ.A 2) 0 1) 1 (1 + x))).sA 2 (upd (upd (upd (μ.A 2) 0 1) 1 (1 + x)) 2 ((1 + x) + y))).sA 2 (upd (upd (upd (upd (μ.A 2) 0 1) 1 (1 + x)) 2 ((1 + x) + y)) 3 (((1 + x) + y) + y))).A 3) 0 3600 0)).sA 15 (fillF ((((((((((((((μ.sA 1 (upd (μ.A 1) 0 x)).sA 1 (upd (upd (μ.A 1) 0 x) 1 y)).sA 1 (upd (upd (upd (μ.A 1) 0 x) 1 y) 2 y)).sA 1 (upd (upd (upd (upd (μ.A 1) 0 x) 1 y) 2 y) 3 z)).sA 0 (upd (μ.A 0) 0 1)).sA 0 (upd (upd (μ.A 0) 0 1) 1 (1 + x))).sA 0 (upd (upd (upd (μ.A 0) 0 1) 1 (1 + x)) 2 ((1 + x) + y))).sA 0 (upd (upd (upd (upd (μ.A 0) 0 1) 1 (1 + x)) 2 ((1 + x) + y)) 3 (((1 + x) + y) + y))).sA 2 (upd (μ.A 2) 0 1)).sA 2 (upd (upd (μ.A 2) 0 1) 1 (1 + x))).sA 2 (upd (upd (upd (μ.A 2) 0 1) 1 (1 + x)) 2 ((1 + x) + y))).sA 2 (upd (upd (upd (upd (μ.A 2) 0 1) 1 (1 + x)) 2 ((1 + x) + y)) 3 (((1 + x) + y) + y))).sA 3 (fillF (((((((((((((μ.sA 1 (upd (μ.A 1) 0 x)).sA 1 (upd (upd (μ.A 1) 0 x) 1 y)).sA 1 (upd (upd (upd (μ.A 1) 0 x) 1 y) 2 y)).sA 1 (upd (upd (upd (upd (μ.A 1) 0 x) 1 y) 2 y) 3 z)).sA 0 (upd (μ.A 0) 0 1)).sA 0 (upd (upd (μ.A 0) 0 1) 1 (1 + x))).sA 0 (upd (upd (upd (μ.A 0) 0 1) 1 (1 + x)) 2 ((1 + x) + y))).sA 0 (upd (upd (upd (upd (μ.A 0) 0 1) 1 (1 + x)) 2 ((1 + x) + y)) 3 (((1 + x) + y) + y))).sA 2 (upd (μ.A 2) 0 1)).sA 2 (upd (upd (μ.A 2) 0 1) 1 (1 + x))).sA 2 (upd (upd (upd (μ.A 2) 0 1) 1 (1 + x)) 2 ((1 + x) + y))).sA 2 (upd (upd (upd (upd (μ.A 2) 0 1) 1 (1 + x)) 2 ((1 + x) + y)) 3 (((1 + x) + y) + y))).A 3) 0 3600 0)).A 15) 0 16 0)).sM 1 1).sM 3 0).sM 4 0).sM 6 0).sM 7 0).sM 8 0
set_option maxHeartbeats 4000000 in
set_option maxRecDepth 100000 in
/-- all parts, empty -/
theorem qMd_lay (l : Launch) (D : va_G) (cI cZ : ClassId) (b : Nat → Nat) (μ : mSt) (x : Int32) (y : Int32) (z : Int32) : gx_Mv l yMd_lay (Cond.code yMd_lay cMd_lay 5 none :: gW) (gR 0) D gC (mdT cI cZ) (mdW cI cZ b) μ [.ref (b 0), .int x, .int y, .int z] (fun u => u = layM μ x y z) := by
  refine gx_Mv.of (cc := cMd_lay) (maxL := 5) (by decide) rfl (Nat.le_of_ble_eq_true rfl) ?_
  intro p e s m args below meth c ls A E hA hK hP hD hS hl
  obtain ⟨hx, hb, hr, hml, hts, hown, hlocks, hnm⟩ := id E
  have hg : ∀ w ∈ gW, w.before args s = true := fun w h => hts w (List.mem_cons_of_mem _ h)
  have hown : s.vm.findClass "NurseryRowModel" = some m.cls := hown
  have hl : lv_has ls 5 [(0, .ref (b 0)), (1, .int x), (2, .int y), (3, .int z)] := hl
  refine lv_aload_n hx hb dMd_lay_0 rfl (lv_at hl 0 rfl) ?_
  refine va_get (C := RMd) (T := TMd) (N := 25) (ci := 2) (v := .ref (b 2)) hx hb hg inMd hown hK hP 0 rfl rfl 2 (by decide) (hg _ f_Md_13) (fun _ h9 => h9) rfl dMd_lay_1 ?_
  refine lv_iconst (v := 0) hx hb dMd_lay_4 (by decide) ?_
  refine lv_iload_n hx hb dMd_lay_5 rfl (lv_at hl 1 rfl) ?_
  refine va_iast hx hb hK hP hD hS 2 0 rfl rfl (by unfold vp_in; decide) dMd_lay_6 (fun H locs hP hD hS => ?_)
  rw [show (0 : Int32).toNatClampNeg = 0 from by decide] at hP hD
  rw [mdA_1] at hP hD
  refine lv_aload_n hx hb dMd_lay_7 rfl (lv_at hl 0 rfl) ?_
  refine va_get (C := RMd) (T := TMd) (N := 25) (ci := 2) (v := .ref (b 2)) hx hb hg inMd hown hK hP 0 rfl rfl 2 (by decide) (hg _ f_Md_13) (fun _ h9 => h9) rfl dMd_lay_8 ?_
  refine lv_iconst (v := 1) hx hb dMd_lay_11 (by decide) ?_
  refine lv_iload_n hx hb dMd_lay_12 rfl (lv_at hl 2 rfl) ?_
  refine va_iast hx hb hK hP hD hS 2 0 rfl rfl (by unfold vp_in; decide) dMd_lay_13 (fun H locs hP hD hS => ?_)
  rw [show (1 : Int32).toNatClampNeg = 1 from by decide] at hP hD
  rw [mdA_1] at hP hD
  refine lv_aload_n hx hb dMd_lay_14 rfl (lv_at hl 0 rfl) ?_
  refine va_get (C := RMd) (T := TMd) (N := 25) (ci := 2) (v := .ref (b 2)) hx hb hg inMd hown hK hP 0 rfl rfl 2 (by decide) (hg _ f_Md_13) (fun _ h9 => h9) rfl dMd_lay_15 ?_
  refine lv_iconst (v := 2) hx hb dMd_lay_18 (by decide) ?_
  refine lv_iload_n hx hb dMd_lay_19 rfl (lv_at hl 2 rfl) ?_
  refine va_iast hx hb hK hP hD hS 2 0 rfl rfl (by unfold vp_in; decide) dMd_lay_20 (fun H locs hP hD hS => ?_)
  rw [show (2 : Int32).toNatClampNeg = 2 from by decide] at hP hD
  rw [mdA_1] at hP hD
  refine lv_aload_n hx hb dMd_lay_21 rfl (lv_at hl 0 rfl) ?_
  refine va_get (C := RMd) (T := TMd) (N := 25) (ci := 2) (v := .ref (b 2)) hx hb hg inMd hown hK hP 0 rfl rfl 2 (by decide) (hg _ f_Md_13) (fun _ h9 => h9) rfl dMd_lay_22 ?_
  refine lv_iconst (v := 3) hx hb dMd_lay_25 (by decide) ?_
  refine lv_iload_n hx hb dMd_lay_26 rfl (lv_at hl 3 rfl) ?_
  refine va_iast hx hb hK hP hD hS 2 0 rfl rfl (by unfold vp_in; decide) dMd_lay_27 (fun H locs hP hD hS => ?_)
  rw [show (3 : Int32).toNatClampNeg = 3 from by decide] at hP hD
  rw [mdA_1] at hP hD
  refine lv_aload_n hx hb dMd_lay_28 rfl (lv_at hl 0 rfl) ?_
  refine va_get (C := RMd) (T := TMd) (N := 25) (ci := 2) (v := .ref (b 1)) hx hb hg inMd hown hK hP 0 rfl rfl 1 (by decide) (hg _ f_Md_7) (fun _ h9 => h9) rfl dMd_lay_29 ?_
  refine lv_iconst (v := 0) hx hb dMd_lay_32 (by decide) ?_
  refine lv_iconst (v := 1) hx hb dMd_lay_33 (by decide) ?_
  refine va_iast hx hb hK hP hD hS 1 0 rfl rfl (by unfold vp_in; decide) dMd_lay_34 (fun H locs hP hD hS => ?_)
  rw [show (0 : Int32).toNatClampNeg = 0 from by decide] at hP hD
  rw [mdA_0] at hP hD
  refine lv_iconst (v := 1) hx hb dMd_lay_35 (by decide) ?_
  refine lv_istore (lv' := [(4, .int 1), (0, .ref (b 0)), (1, .int x), (2, .int y), (3, .int z)]) hx hb dMd_lay_36 hl (by decide) rfl (fun ls hl => ?_)
  refine lv_iload hx hb dMd_lay_38 (lv_at hl 0 rfl) ?_
  refine lv_iconst (v := 4) hx hb dMd_lay_40 (by decide) ?_
  refine lv_icmp_ge (tgt := 76) hx hb dMd_lay_41 (by decide) (fun c_41 => ?_) (fun c_41 => ?_)
  · exact absurd c_41 (by decide)
  · refine lv_aload_n hx hb dMd_lay_44 rfl (lv_at hl 1 rfl) ?_
    refine va_get (C := RMd) (T := TMd) (N := 25) (ci := 2) (v := .ref (b 1)) hx hb hg inMd hown hK hP 0 rfl rfl 1 (by decide) (hg _ f_Md_7) (fun _ h9 => h9) rfl dMd_lay_45 ?_
    refine lv_iload hx hb dMd_lay_48 (lv_at hl 0 rfl) ?_
    refine lv_aload_n hx hb dMd_lay_50 rfl (lv_at hl 1 rfl) ?_
    refine va_get (C := RMd) (T := TMd) (N := 25) (ci := 2) (v := .ref (b 1)) hx hb hg inMd hown hK hP 0 rfl rfl 1 (by decide) (hg _ f_Md_7) (fun _ h9 => h9) rfl dMd_lay_51 ?_
    refine lv_iload hx hb dMd_lay_54 (lv_at hl 0 rfl) ?_
    refine lv_iconst (v := 1) hx hb dMd_lay_56 (by decide) ?_
    refine lv_isub hx hb dMd_lay_57 ?_
    refine gx_top (z := 0) (by decide) ?_
    refine va_iald hx hb hK hP 1 0 rfl rfl (by unfold vp_in; decide) dMd_lay_58 ?_
    refine gx_top (z := 1) rfl ?_
    refine lv_aload_n hx hb dMd_lay_59 rfl (lv_at hl 1 rfl) ?_
    refine va_get (C := RMd) (T := TMd) (N := 25) (ci := 2) (v := .ref (b 2)) hx hb hg inMd hown hK hP 0 rfl rfl 2 (by decide) (hg _ f_Md_13) (fun _ h9 => h9) rfl dMd_lay_60 ?_
    refine lv_iload hx hb dMd_lay_63 (lv_at hl 0 rfl) ?_
    refine lv_iconst (v := 1) hx hb dMd_lay_65 (by decide) ?_
    refine lv_isub hx hb dMd_lay_66 ?_
    refine gx_top (z := 0) (by decide) ?_
    refine va_iald hx hb hK hP 2 0 rfl rfl (by unfold vp_in; decide) dMd_lay_67 ?_
    refine gx_top (z := x) rfl ?_
    refine lv_iadd hx hb dMd_lay_68 ?_
    refine va_iast hx hb hK hP hD hS 1 0 rfl rfl (by unfold vp_in; decide) dMd_lay_69 (fun H locs hP hD hS => ?_)
    rw [show (1 : Int32).toNatClampNeg = 1 from by decide] at hP hD
    rw [mdA_0] at hP hD
    refine lv_iinc (v := 2) (lv' := [(4, .int 2), (0, .ref (b 0)), (1, .int x), (2, .int y), (3, .int z)]) hx hb dMd_lay_70 hl (k := 0) rfl (by decide) (by decide) rfl (fun ls hl => ?_)
    refine lv_goto (tgt := 38) hx hb dMd_lay_73 (by decide) ?_
    refine lv_iload hx hb dMd_lay_38 (lv_at hl 0 rfl) ?_
    refine lv_iconst (v := 4) hx hb dMd_lay_40 (by decide) ?_
    refine lv_icmp_ge (tgt := 76) hx hb dMd_lay_41 (by decide) (fun c_41' => ?_) (fun c_41' => ?_)
    · exact absurd c_41' (by decide)
    · refine lv_aload_n hx hb dMd_lay_44 rfl (lv_at hl 1 rfl) ?_
      refine va_get (C := RMd) (T := TMd) (N := 25) (ci := 2) (v := .ref (b 1)) hx hb hg inMd hown hK hP 0 rfl rfl 1 (by decide) (hg _ f_Md_7) (fun _ h9 => h9) rfl dMd_lay_45 ?_
      refine lv_iload hx hb dMd_lay_48 (lv_at hl 0 rfl) ?_
      refine lv_aload_n hx hb dMd_lay_50 rfl (lv_at hl 1 rfl) ?_
      refine va_get (C := RMd) (T := TMd) (N := 25) (ci := 2) (v := .ref (b 1)) hx hb hg inMd hown hK hP 0 rfl rfl 1 (by decide) (hg _ f_Md_7) (fun _ h9 => h9) rfl dMd_lay_51 ?_
      refine lv_iload hx hb dMd_lay_54 (lv_at hl 0 rfl) ?_
      refine lv_iconst (v := 1) hx hb dMd_lay_56 (by decide) ?_
      refine lv_isub hx hb dMd_lay_57 ?_
      refine gx_top (z := 1) (by decide) ?_
      refine va_iald hx hb hK hP 1 0 rfl rfl (by unfold vp_in; decide) dMd_lay_58 ?_
      refine gx_top (z := 1 + x) rfl ?_
      refine lv_aload_n hx hb dMd_lay_59 rfl (lv_at hl 1 rfl) ?_
      refine va_get (C := RMd) (T := TMd) (N := 25) (ci := 2) (v := .ref (b 2)) hx hb hg inMd hown hK hP 0 rfl rfl 2 (by decide) (hg _ f_Md_13) (fun _ h9 => h9) rfl dMd_lay_60 ?_
      refine lv_iload hx hb dMd_lay_63 (lv_at hl 0 rfl) ?_
      refine lv_iconst (v := 1) hx hb dMd_lay_65 (by decide) ?_
      refine lv_isub hx hb dMd_lay_66 ?_
      refine gx_top (z := 1) (by decide) ?_
      refine va_iald hx hb hK hP 2 0 rfl rfl (by unfold vp_in; decide) dMd_lay_67 ?_
      refine gx_top (z := y) rfl ?_
      refine lv_iadd hx hb dMd_lay_68 ?_
      refine va_iast hx hb hK hP hD hS 1 0 rfl rfl (by unfold vp_in; decide) dMd_lay_69 (fun H locs hP hD hS => ?_)
      rw [show (2 : Int32).toNatClampNeg = 2 from by decide] at hP hD
      rw [mdA_0] at hP hD
      refine lv_iinc (v := 3) (lv' := [(4, .int 3), (0, .ref (b 0)), (1, .int x), (2, .int y), (3, .int z)]) hx hb dMd_lay_70 hl (k := 0) rfl (by decide) (by decide) rfl (fun ls hl => ?_)
      refine lv_goto (tgt := 38) hx hb dMd_lay_73 (by decide) ?_
      refine lv_iload hx hb dMd_lay_38 (lv_at hl 0 rfl) ?_
      refine lv_iconst (v := 4) hx hb dMd_lay_40 (by decide) ?_
      refine lv_icmp_ge (tgt := 76) hx hb dMd_lay_41 (by decide) (fun c_41'' => ?_) (fun c_41'' => ?_)
      · exact absurd c_41'' (by decide)
      · refine lv_aload_n hx hb dMd_lay_44 rfl (lv_at hl 1 rfl) ?_
        refine va_get (C := RMd) (T := TMd) (N := 25) (ci := 2) (v := .ref (b 1)) hx hb hg inMd hown hK hP 0 rfl rfl 1 (by decide) (hg _ f_Md_7) (fun _ h9 => h9) rfl dMd_lay_45 ?_
        refine lv_iload hx hb dMd_lay_48 (lv_at hl 0 rfl) ?_
        refine lv_aload_n hx hb dMd_lay_50 rfl (lv_at hl 1 rfl) ?_
        refine va_get (C := RMd) (T := TMd) (N := 25) (ci := 2) (v := .ref (b 1)) hx hb hg inMd hown hK hP 0 rfl rfl 1 (by decide) (hg _ f_Md_7) (fun _ h9 => h9) rfl dMd_lay_51 ?_
        refine lv_iload hx hb dMd_lay_54 (lv_at hl 0 rfl) ?_
        refine lv_iconst (v := 1) hx hb dMd_lay_56 (by decide) ?_
        refine lv_isub hx hb dMd_lay_57 ?_
        refine gx_top (z := 2) (by decide) ?_
        refine va_iald hx hb hK hP 1 0 rfl rfl (by unfold vp_in; decide) dMd_lay_58 ?_
        refine gx_top (z := (1 + x) + y) rfl ?_
        refine lv_aload_n hx hb dMd_lay_59 rfl (lv_at hl 1 rfl) ?_
        refine va_get (C := RMd) (T := TMd) (N := 25) (ci := 2) (v := .ref (b 2)) hx hb hg inMd hown hK hP 0 rfl rfl 2 (by decide) (hg _ f_Md_13) (fun _ h9 => h9) rfl dMd_lay_60 ?_
        refine lv_iload hx hb dMd_lay_63 (lv_at hl 0 rfl) ?_
        refine lv_iconst (v := 1) hx hb dMd_lay_65 (by decide) ?_
        refine lv_isub hx hb dMd_lay_66 ?_
        refine gx_top (z := 2) (by decide) ?_
        refine va_iald hx hb hK hP 2 0 rfl rfl (by unfold vp_in; decide) dMd_lay_67 ?_
        refine gx_top (z := y) rfl ?_
        refine lv_iadd hx hb dMd_lay_68 ?_
        refine va_iast hx hb hK hP hD hS 1 0 rfl rfl (by unfold vp_in; decide) dMd_lay_69 (fun H locs hP hD hS => ?_)
        rw [show (3 : Int32).toNatClampNeg = 3 from by decide] at hP hD
        rw [mdA_0] at hP hD
        refine lv_iinc (v := 4) (lv' := [(4, .int 4), (0, .ref (b 0)), (1, .int x), (2, .int y), (3, .int z)]) hx hb dMd_lay_70 hl (k := 0) rfl (by decide) (by decide) rfl (fun ls hl => ?_)
        refine lv_goto (tgt := 38) hx hb dMd_lay_73 (by decide) ?_
        refine lv_iload hx hb dMd_lay_38 (lv_at hl 0 rfl) ?_
        refine lv_iconst (v := 4) hx hb dMd_lay_40 (by decide) ?_
        refine lv_icmp_ge (tgt := 76) hx hb dMd_lay_41 (by decide) (fun c_41''' => ?_) (fun c_41''' => ?_)
        · refine lv_iconst (v := 0) hx hb dMd_lay_76 (by decide) ?_
          refine lv_istore (lv' := [(4, .int 0), (0, .ref (b 0)), (1, .int x), (2, .int y), (3, .int z)]) hx hb dMd_lay_77 hl (by decide) rfl (fun ls hl => ?_)
          refine lv_iload hx hb dMd_lay_79 (lv_at hl 0 rfl) ?_
          refine lv_iconst (v := 4) hx hb dMd_lay_81 (by decide) ?_
          refine lv_icmp_ge (tgt := 105) hx hb dMd_lay_82 (by decide) (fun c_82 => ?_) (fun c_82 => ?_)
          · exact absurd c_82 (by decide)
          · refine lv_aload_n hx hb dMd_lay_85 rfl (lv_at hl 1 rfl) ?_
            refine va_get (C := RMd) (T := TMd) (N := 25) (ci := 2) (v := .ref (b 3)) hx hb hg inMd hown hK hP 0 rfl rfl 3 (by decide) (hg _ f_Md_16) (fun _ h9 => h9) rfl dMd_lay_86 ?_
            refine lv_iload hx hb dMd_lay_89 (lv_at hl 0 rfl) ?_
            refine lv_aload_n hx hb dMd_lay_91 rfl (lv_at hl 1 rfl) ?_
            refine va_get (C := RMd) (T := TMd) (N := 25) (ci := 2) (v := .ref (b 1)) hx hb hg inMd hown hK hP 0 rfl rfl 1 (by decide) (hg _ f_Md_7) (fun _ h9 => h9) rfl dMd_lay_92 ?_
            refine lv_iload hx hb dMd_lay_95 (lv_at hl 0 rfl) ?_
            refine va_iald hx hb hK hP 1 0 rfl rfl (by unfold vp_in; decide) dMd_lay_97 ?_
            refine gx_top (z := 1) rfl ?_
            refine va_iast hx hb hK hP hD hS 3 0 rfl rfl (by unfold vp_in; decide) dMd_lay_98 (fun H locs hP hD hS => ?_)
            rw [show (0 : Int32).toNatClampNeg = 0 from by decide] at hP hD
            rw [mdA_2] at hP hD
            refine lv_iinc (v := 1) (lv' := [(4, .int 1), (0, .ref (b 0)), (1, .int x), (2, .int y), (3, .int z)]) hx hb dMd_lay_99 hl (k := 0) rfl (by decide) (by decide) rfl (fun ls hl => ?_)
            refine lv_goto (tgt := 79) hx hb dMd_lay_102 (by decide) ?_
            refine lv_iload hx hb dMd_lay_79 (lv_at hl 0 rfl) ?_
            refine lv_iconst (v := 4) hx hb dMd_lay_81 (by decide) ?_
            refine lv_icmp_ge (tgt := 105) hx hb dMd_lay_82 (by decide) (fun c_82' => ?_) (fun c_82' => ?_)
            · exact absurd c_82' (by decide)
            · refine lv_aload_n hx hb dMd_lay_85 rfl (lv_at hl 1 rfl) ?_
              refine va_get (C := RMd) (T := TMd) (N := 25) (ci := 2) (v := .ref (b 3)) hx hb hg inMd hown hK hP 0 rfl rfl 3 (by decide) (hg _ f_Md_16) (fun _ h9 => h9) rfl dMd_lay_86 ?_
              refine lv_iload hx hb dMd_lay_89 (lv_at hl 0 rfl) ?_
              refine lv_aload_n hx hb dMd_lay_91 rfl (lv_at hl 1 rfl) ?_
              refine va_get (C := RMd) (T := TMd) (N := 25) (ci := 2) (v := .ref (b 1)) hx hb hg inMd hown hK hP 0 rfl rfl 1 (by decide) (hg _ f_Md_7) (fun _ h9 => h9) rfl dMd_lay_92 ?_
              refine lv_iload hx hb dMd_lay_95 (lv_at hl 0 rfl) ?_
              refine va_iald hx hb hK hP 1 0 rfl rfl (by unfold vp_in; decide) dMd_lay_97 ?_
              refine gx_top (z := 1 + x) rfl ?_
              refine va_iast hx hb hK hP hD hS 3 0 rfl rfl (by unfold vp_in; decide) dMd_lay_98 (fun H locs hP hD hS => ?_)
              rw [show (1 : Int32).toNatClampNeg = 1 from by decide] at hP hD
              rw [mdA_2] at hP hD
              refine lv_iinc (v := 2) (lv' := [(4, .int 2), (0, .ref (b 0)), (1, .int x), (2, .int y), (3, .int z)]) hx hb dMd_lay_99 hl (k := 0) rfl (by decide) (by decide) rfl (fun ls hl => ?_)
              refine lv_goto (tgt := 79) hx hb dMd_lay_102 (by decide) ?_
              refine lv_iload hx hb dMd_lay_79 (lv_at hl 0 rfl) ?_
              refine lv_iconst (v := 4) hx hb dMd_lay_81 (by decide) ?_
              refine lv_icmp_ge (tgt := 105) hx hb dMd_lay_82 (by decide) (fun c_82'' => ?_) (fun c_82'' => ?_)
              · exact absurd c_82'' (by decide)
              · refine lv_aload_n hx hb dMd_lay_85 rfl (lv_at hl 1 rfl) ?_
                refine va_get (C := RMd) (T := TMd) (N := 25) (ci := 2) (v := .ref (b 3)) hx hb hg inMd hown hK hP 0 rfl rfl 3 (by decide) (hg _ f_Md_16) (fun _ h9 => h9) rfl dMd_lay_86 ?_
                refine lv_iload hx hb dMd_lay_89 (lv_at hl 0 rfl) ?_
                refine lv_aload_n hx hb dMd_lay_91 rfl (lv_at hl 1 rfl) ?_
                refine va_get (C := RMd) (T := TMd) (N := 25) (ci := 2) (v := .ref (b 1)) hx hb hg inMd hown hK hP 0 rfl rfl 1 (by decide) (hg _ f_Md_7) (fun _ h9 => h9) rfl dMd_lay_92 ?_
                refine lv_iload hx hb dMd_lay_95 (lv_at hl 0 rfl) ?_
                refine va_iald hx hb hK hP 1 0 rfl rfl (by unfold vp_in; decide) dMd_lay_97 ?_
                refine gx_top (z := (1 + x) + y) rfl ?_
                refine va_iast hx hb hK hP hD hS 3 0 rfl rfl (by unfold vp_in; decide) dMd_lay_98 (fun H locs hP hD hS => ?_)
                rw [show (2 : Int32).toNatClampNeg = 2 from by decide] at hP hD
                rw [mdA_2] at hP hD
                refine lv_iinc (v := 3) (lv' := [(4, .int 3), (0, .ref (b 0)), (1, .int x), (2, .int y), (3, .int z)]) hx hb dMd_lay_99 hl (k := 0) rfl (by decide) (by decide) rfl (fun ls hl => ?_)
                refine lv_goto (tgt := 79) hx hb dMd_lay_102 (by decide) ?_
                refine lv_iload hx hb dMd_lay_79 (lv_at hl 0 rfl) ?_
                refine lv_iconst (v := 4) hx hb dMd_lay_81 (by decide) ?_
                refine lv_icmp_ge (tgt := 105) hx hb dMd_lay_82 (by decide) (fun c_82''' => ?_) (fun c_82''' => ?_)
                · exact absurd c_82''' (by decide)
                · refine lv_aload_n hx hb dMd_lay_85 rfl (lv_at hl 1 rfl) ?_
                  refine va_get (C := RMd) (T := TMd) (N := 25) (ci := 2) (v := .ref (b 3)) hx hb hg inMd hown hK hP 0 rfl rfl 3 (by decide) (hg _ f_Md_16) (fun _ h9 => h9) rfl dMd_lay_86 ?_
                  refine lv_iload hx hb dMd_lay_89 (lv_at hl 0 rfl) ?_
                  refine lv_aload_n hx hb dMd_lay_91 rfl (lv_at hl 1 rfl) ?_
                  refine va_get (C := RMd) (T := TMd) (N := 25) (ci := 2) (v := .ref (b 1)) hx hb hg inMd hown hK hP 0 rfl rfl 1 (by decide) (hg _ f_Md_7) (fun _ h9 => h9) rfl dMd_lay_92 ?_
                  refine lv_iload hx hb dMd_lay_95 (lv_at hl 0 rfl) ?_
                  refine va_iald hx hb hK hP 1 0 rfl rfl (by unfold vp_in; decide) dMd_lay_97 ?_
                  refine gx_top (z := ((1 + x) + y) + y) rfl ?_
                  refine va_iast hx hb hK hP hD hS 3 0 rfl rfl (by unfold vp_in; decide) dMd_lay_98 (fun H locs hP hD hS => ?_)
                  rw [show (3 : Int32).toNatClampNeg = 3 from by decide] at hP hD
                  rw [mdA_2] at hP hD
                  refine lv_iinc (v := 4) (lv' := [(4, .int 4), (0, .ref (b 0)), (1, .int x), (2, .int y), (3, .int z)]) hx hb dMd_lay_99 hl (k := 0) rfl (by decide) (by decide) rfl (fun ls hl => ?_)
                  refine lv_goto (tgt := 79) hx hb dMd_lay_102 (by decide) ?_
                  refine lv_iload hx hb dMd_lay_79 (lv_at hl 0 rfl) ?_
                  refine lv_iconst (v := 4) hx hb dMd_lay_81 (by decide) ?_
                  refine lv_icmp_ge (tgt := 105) hx hb dMd_lay_82 (by decide) (fun c_82'''' => ?_) (fun c_82'''' => ?_)
                  · refine lv_iconst (v := 0) hx hb dMd_lay_105 (by decide) ?_
                    refine lv_istore (lv' := [(4, .int 0), (0, .ref (b 0)), (1, .int x), (2, .int y), (3, .int z)]) hx hb dMd_lay_106 hl (by decide) rfl (fun ls hl => ?_)
                    have key108 : ∀ (k t : Nat) (H : Heap) (locs : List Loc) (ls : Array Slot), t + k = 3600 → va_P D gC (mdW cI cZ b (((((((((((((μ.sA 1 (upd (μ.A 1) 0 x)).sA 1 (upd (upd (μ.A 1) 0 x) 1 y)).sA 1 (upd (upd (upd (μ.A 1) 0 x) 1 y) 2 y)).sA 1 (upd (upd (upd (upd (μ.A 1) 0 x) 1 y) 2 y) 3 z)).sA 0 (upd (μ.A 0) 0 1)).sA 0 (upd (upd (μ.A 0) 0 1) 1 (1 + x))).sA 0 (upd (upd (upd (μ.A 0) 0 1) 1 (1 + x)) 2 ((1 + x) + y))).sA 0 (upd (upd (upd (upd (μ.A 0) 0 1) 1 (1 + x)) 2 ((1 + x) + y)) 3 (((1 + x) + y) + y))).sA 2 (upd (μ.A 2) 0 1)).sA 2 (upd (upd (μ.A 2) 0 1) 1 (1 + x))).sA 2 (upd (upd (upd (μ.A 2) 0 1) 1 (1 + x)) 2 ((1 + x) + y))).sA 2 (upd (upd (upd (upd (μ.A 2) 0 1) 1 (1 + x)) 2 ((1 + x) + y)) 3 (((1 + x) + y) + y))).sA 3 (fillF (((((((((((((μ.sA 1 (upd (μ.A 1) 0 x)).sA 1 (upd (upd (μ.A 1) 0 x) 1 y)).sA 1 (upd (upd (upd (μ.A 1) 0 x) 1 y) 2 y)).sA 1 (upd (upd (upd (upd (μ.A 1) 0 x) 1 y) 2 y) 3 z)).sA 0 (upd (μ.A 0) 0 1)).sA 0 (upd (upd (μ.A 0) 0 1) 1 (1 + x))).sA 0 (upd (upd (upd (μ.A 0) 0 1) 1 (1 + x)) 2 ((1 + x) + y))).sA 0 (upd (upd (upd (upd (μ.A 0) 0 1) 1 (1 + x)) 2 ((1 + x) + y)) 3 (((1 + x) + y) + y))).sA 2 (upd (μ.A 2) 0 1)).sA 2 (upd (upd (μ.A 2) 0 1) 1 (1 + x))).sA 2 (upd (upd (upd (μ.A 2) 0 1) 1 (1 + x)) 2 ((1 + x) + y))).sA 2 (upd (upd (upd (upd (μ.A 2) 0 1) 1 (1 + x)) 2 ((1 + x) + y)) 3 (((1 + x) + y) + y))).A 3) 0 t 0))) H → va_D A (mdW cI cZ b (((((((((((((μ.sA 1 (upd (μ.A 1) 0 x)).sA 1 (upd (upd (μ.A 1) 0 x) 1 y)).sA 1 (upd (upd (upd (μ.A 1) 0 x) 1 y) 2 y)).sA 1 (upd (upd (upd (upd (μ.A 1) 0 x) 1 y) 2 y) 3 z)).sA 0 (upd (μ.A 0) 0 1)).sA 0 (upd (upd (μ.A 0) 0 1) 1 (1 + x))).sA 0 (upd (upd (upd (μ.A 0) 0 1) 1 (1 + x)) 2 ((1 + x) + y))).sA 0 (upd (upd (upd (upd (μ.A 0) 0 1) 1 (1 + x)) 2 ((1 + x) + y)) 3 (((1 + x) + y) + y))).sA 2 (upd (μ.A 2) 0 1)).sA 2 (upd (upd (μ.A 2) 0 1) 1 (1 + x))).sA 2 (upd (upd (upd (μ.A 2) 0 1) 1 (1 + x)) 2 ((1 + x) + y))).sA 2 (upd (upd (upd (upd (μ.A 2) 0 1) 1 (1 + x)) 2 ((1 + x) + y)) 3 (((1 + x) + y) + y))).sA 3 (fillF (((((((((((((μ.sA 1 (upd (μ.A 1) 0 x)).sA 1 (upd (upd (μ.A 1) 0 x) 1 y)).sA 1 (upd (upd (upd (μ.A 1) 0 x) 1 y) 2 y)).sA 1 (upd (upd (upd (upd (μ.A 1) 0 x) 1 y) 2 y) 3 z)).sA 0 (upd (μ.A 0) 0 1)).sA 0 (upd (upd (μ.A 0) 0 1) 1 (1 + x))).sA 0 (upd (upd (upd (μ.A 0) 0 1) 1 (1 + x)) 2 ((1 + x) + y))).sA 0 (upd (upd (upd (upd (μ.A 0) 0 1) 1 (1 + x)) 2 ((1 + x) + y)) 3 (((1 + x) + y) + y))).sA 2 (upd (μ.A 2) 0 1)).sA 2 (upd (upd (μ.A 2) 0 1) 1 (1 + x))).sA 2 (upd (upd (upd (μ.A 2) 0 1) 1 (1 + x)) 2 ((1 + x) + y))).sA 2 (upd (upd (upd (upd (μ.A 2) 0 1) 1 (1 + x)) 2 ((1 + x) + y)) 3 (((1 + x) + y) + y))).A 3) 0 t 0))) → va_S A s.heap H locs → lv_has ls 5 [(0, .ref (b 0)), (1, .int x), (2, .int y), (3, .int z), (4, .int (nI t))] → W p l e (gR 0) s m args below meth c H locs 0 0 (MQ below (va_Qv (fun u => u = layM μ x y z) (gx_B D gC (mdT cI cZ) (mdW cI cZ b) A) A) args s 0 0 A) (F0 m 108 ls []) := by
                      intro k
                      induction k with
                      | zero =>
                        intro t H locs ls hte hP hD hS hl
                        have hte : t = 3600 := hte
                        subst hte
                        have hl : lv_has ls 5 [(0, .ref (b 0)), (1, .int x), (2, .int y), (3, .int z), (4, .int 3600)] := hl
                        refine lv_iload hx hb dMd_lay_108 (lv_at hl 4 rfl) ?_
                        refine lv_sipush (v := 3600) hx hb dMd_lay_110 (by decide) ?_
                        refine lv_icmp_ge (tgt := 130) hx hb dMd_lay_113 (by decide) (fun c_113 => ?_) (fun c_113 => ?_)
                        · refine lv_iconst (v := 0) hx hb dMd_lay_130 (by decide) ?_
                          refine lv_istore (lv' := [(4, .int 0), (0, .ref (b 0)), (1, .int x), (2, .int y), (3, .int z)]) hx hb dMd_lay_131 hl (by decide) rfl (fun ls hl => ?_)
                          have key133 : ∀ (k t : Nat) (H : Heap) (locs : List Loc) (ls : Array Slot), t + k = 16 → va_P D gC (mdW cI cZ b ((((((((((((((μ.sA 1 (upd (μ.A 1) 0 x)).sA 1 (upd (upd (μ.A 1) 0 x) 1 y)).sA 1 (upd (upd (upd (μ.A 1) 0 x) 1 y) 2 y)).sA 1 (upd (upd (upd (upd (μ.A 1) 0 x) 1 y) 2 y) 3 z)).sA 0 (upd (μ.A 0) 0 1)).sA 0 (upd (upd (μ.A 0) 0 1) 1 (1 + x))).sA 0 (upd (upd (upd (μ.A 0) 0 1) 1 (1 + x)) 2 ((1 + x) + y))).sA 0 (upd (upd (upd (upd (μ.A 0) 0 1) 1 (1 + x)) 2 ((1 + x) + y)) 3 (((1 + x) + y) + y))).sA 2 (upd (μ.A 2) 0 1)).sA 2 (upd (upd (μ.A 2) 0 1) 1 (1 + x))).sA 2 (upd (upd (upd (μ.A 2) 0 1) 1 (1 + x)) 2 ((1 + x) + y))).sA 2 (upd (upd (upd (upd (μ.A 2) 0 1) 1 (1 + x)) 2 ((1 + x) + y)) 3 (((1 + x) + y) + y))).sA 3 (fillF (((((((((((((μ.sA 1 (upd (μ.A 1) 0 x)).sA 1 (upd (upd (μ.A 1) 0 x) 1 y)).sA 1 (upd (upd (upd (μ.A 1) 0 x) 1 y) 2 y)).sA 1 (upd (upd (upd (upd (μ.A 1) 0 x) 1 y) 2 y) 3 z)).sA 0 (upd (μ.A 0) 0 1)).sA 0 (upd (upd (μ.A 0) 0 1) 1 (1 + x))).sA 0 (upd (upd (upd (μ.A 0) 0 1) 1 (1 + x)) 2 ((1 + x) + y))).sA 0 (upd (upd (upd (upd (μ.A 0) 0 1) 1 (1 + x)) 2 ((1 + x) + y)) 3 (((1 + x) + y) + y))).sA 2 (upd (μ.A 2) 0 1)).sA 2 (upd (upd (μ.A 2) 0 1) 1 (1 + x))).sA 2 (upd (upd (upd (μ.A 2) 0 1) 1 (1 + x)) 2 ((1 + x) + y))).sA 2 (upd (upd (upd (upd (μ.A 2) 0 1) 1 (1 + x)) 2 ((1 + x) + y)) 3 (((1 + x) + y) + y))).A 3) 0 3600 0)).sA 15 (fillF ((((((((((((((μ.sA 1 (upd (μ.A 1) 0 x)).sA 1 (upd (upd (μ.A 1) 0 x) 1 y)).sA 1 (upd (upd (upd (μ.A 1) 0 x) 1 y) 2 y)).sA 1 (upd (upd (upd (upd (μ.A 1) 0 x) 1 y) 2 y) 3 z)).sA 0 (upd (μ.A 0) 0 1)).sA 0 (upd (upd (μ.A 0) 0 1) 1 (1 + x))).sA 0 (upd (upd (upd (μ.A 0) 0 1) 1 (1 + x)) 2 ((1 + x) + y))).sA 0 (upd (upd (upd (upd (μ.A 0) 0 1) 1 (1 + x)) 2 ((1 + x) + y)) 3 (((1 + x) + y) + y))).sA 2 (upd (μ.A 2) 0 1)).sA 2 (upd (upd (μ.A 2) 0 1) 1 (1 + x))).sA 2 (upd (upd (upd (μ.A 2) 0 1) 1 (1 + x)) 2 ((1 + x) + y))).sA 2 (upd (upd (upd (upd (μ.A 2) 0 1) 1 (1 + x)) 2 ((1 + x) + y)) 3 (((1 + x) + y) + y))).sA 3 (fillF (((((((((((((μ.sA 1 (upd (μ.A 1) 0 x)).sA 1 (upd (upd (μ.A 1) 0 x) 1 y)).sA 1 (upd (upd (upd (μ.A 1) 0 x) 1 y) 2 y)).sA 1 (upd (upd (upd (upd (μ.A 1) 0 x) 1 y) 2 y) 3 z)).sA 0 (upd (μ.A 0) 0 1)).sA 0 (upd (upd (μ.A 0) 0 1) 1 (1 + x))).sA 0 (upd (upd (upd (μ.A 0) 0 1) 1 (1 + x)) 2 ((1 + x) + y))).sA 0 (upd (upd (upd (upd (μ.A 0) 0 1) 1 (1 + x)) 2 ((1 + x) + y)) 3 (((1 + x) + y) + y))).sA 2 (upd (μ.A 2) 0 1)).sA 2 (upd (upd (μ.A 2) 0 1) 1 (1 + x))).sA 2 (upd (upd (upd (μ.A 2) 0 1) 1 (1 + x)) 2 ((1 + x) + y))).sA 2 (upd (upd (upd (upd (μ.A 2) 0 1) 1 (1 + x)) 2 ((1 + x) + y)) 3 (((1 + x) + y) + y))).A 3) 0 3600 0)).A 15) 0 t 0))) H → va_D A (mdW cI cZ b ((((((((((((((μ.sA 1 (upd (μ.A 1) 0 x)).sA 1 (upd (upd (μ.A 1) 0 x) 1 y)).sA 1 (upd (upd (upd (μ.A 1) 0 x) 1 y) 2 y)).sA 1 (upd (upd (upd (upd (μ.A 1) 0 x) 1 y) 2 y) 3 z)).sA 0 (upd (μ.A 0) 0 1)).sA 0 (upd (upd (μ.A 0) 0 1) 1 (1 + x))).sA 0 (upd (upd (upd (μ.A 0) 0 1) 1 (1 + x)) 2 ((1 + x) + y))).sA 0 (upd (upd (upd (upd (μ.A 0) 0 1) 1 (1 + x)) 2 ((1 + x) + y)) 3 (((1 + x) + y) + y))).sA 2 (upd (μ.A 2) 0 1)).sA 2 (upd (upd (μ.A 2) 0 1) 1 (1 + x))).sA 2 (upd (upd (upd (μ.A 2) 0 1) 1 (1 + x)) 2 ((1 + x) + y))).sA 2 (upd (upd (upd (upd (μ.A 2) 0 1) 1 (1 + x)) 2 ((1 + x) + y)) 3 (((1 + x) + y) + y))).sA 3 (fillF (((((((((((((μ.sA 1 (upd (μ.A 1) 0 x)).sA 1 (upd (upd (μ.A 1) 0 x) 1 y)).sA 1 (upd (upd (upd (μ.A 1) 0 x) 1 y) 2 y)).sA 1 (upd (upd (upd (upd (μ.A 1) 0 x) 1 y) 2 y) 3 z)).sA 0 (upd (μ.A 0) 0 1)).sA 0 (upd (upd (μ.A 0) 0 1) 1 (1 + x))).sA 0 (upd (upd (upd (μ.A 0) 0 1) 1 (1 + x)) 2 ((1 + x) + y))).sA 0 (upd (upd (upd (upd (μ.A 0) 0 1) 1 (1 + x)) 2 ((1 + x) + y)) 3 (((1 + x) + y) + y))).sA 2 (upd (μ.A 2) 0 1)).sA 2 (upd (upd (μ.A 2) 0 1) 1 (1 + x))).sA 2 (upd (upd (upd (μ.A 2) 0 1) 1 (1 + x)) 2 ((1 + x) + y))).sA 2 (upd (upd (upd (upd (μ.A 2) 0 1) 1 (1 + x)) 2 ((1 + x) + y)) 3 (((1 + x) + y) + y))).A 3) 0 3600 0)).sA 15 (fillF ((((((((((((((μ.sA 1 (upd (μ.A 1) 0 x)).sA 1 (upd (upd (μ.A 1) 0 x) 1 y)).sA 1 (upd (upd (upd (μ.A 1) 0 x) 1 y) 2 y)).sA 1 (upd (upd (upd (upd (μ.A 1) 0 x) 1 y) 2 y) 3 z)).sA 0 (upd (μ.A 0) 0 1)).sA 0 (upd (upd (μ.A 0) 0 1) 1 (1 + x))).sA 0 (upd (upd (upd (μ.A 0) 0 1) 1 (1 + x)) 2 ((1 + x) + y))).sA 0 (upd (upd (upd (upd (μ.A 0) 0 1) 1 (1 + x)) 2 ((1 + x) + y)) 3 (((1 + x) + y) + y))).sA 2 (upd (μ.A 2) 0 1)).sA 2 (upd (upd (μ.A 2) 0 1) 1 (1 + x))).sA 2 (upd (upd (upd (μ.A 2) 0 1) 1 (1 + x)) 2 ((1 + x) + y))).sA 2 (upd (upd (upd (upd (μ.A 2) 0 1) 1 (1 + x)) 2 ((1 + x) + y)) 3 (((1 + x) + y) + y))).sA 3 (fillF (((((((((((((μ.sA 1 (upd (μ.A 1) 0 x)).sA 1 (upd (upd (μ.A 1) 0 x) 1 y)).sA 1 (upd (upd (upd (μ.A 1) 0 x) 1 y) 2 y)).sA 1 (upd (upd (upd (upd (μ.A 1) 0 x) 1 y) 2 y) 3 z)).sA 0 (upd (μ.A 0) 0 1)).sA 0 (upd (upd (μ.A 0) 0 1) 1 (1 + x))).sA 0 (upd (upd (upd (μ.A 0) 0 1) 1 (1 + x)) 2 ((1 + x) + y))).sA 0 (upd (upd (upd (upd (μ.A 0) 0 1) 1 (1 + x)) 2 ((1 + x) + y)) 3 (((1 + x) + y) + y))).sA 2 (upd (μ.A 2) 0 1)).sA 2 (upd (upd (μ.A 2) 0 1) 1 (1 + x))).sA 2 (upd (upd (upd (μ.A 2) 0 1) 1 (1 + x)) 2 ((1 + x) + y))).sA 2 (upd (upd (upd (upd (μ.A 2) 0 1) 1 (1 + x)) 2 ((1 + x) + y)) 3 (((1 + x) + y) + y))).A 3) 0 3600 0)).A 15) 0 t 0))) → va_S A s.heap H locs → lv_has ls 5 [(0, .ref (b 0)), (1, .int x), (2, .int y), (3, .int z), (4, .int (nI t))] → W p l e (gR 0) s m args below meth c H locs 0 0 (MQ below (va_Qv (fun u => u = layM μ x y z) (gx_B D gC (mdT cI cZ) (mdW cI cZ b) A) A) args s 0 0 A) (F0 m 133 ls []) := by
                            intro k
                            induction k with
                            | zero =>
                              intro t H locs ls hte hP hD hS hl
                              have hte : t = 16 := hte
                              subst hte
                              have hl : lv_has ls 5 [(0, .ref (b 0)), (1, .int x), (2, .int y), (3, .int z), (4, .int 16)] := hl
                              refine lv_iload hx hb dMd_lay_133 (lv_at hl 4 rfl) ?_
                              refine lv_bipush (v := 16) hx hb dMd_lay_135 (by decide) ?_
                              refine lv_icmp_ge (tgt := 154) hx hb dMd_lay_137 (by decide) (fun c_137 => ?_) (fun c_137 => ?_)
                              · refine lv_aload_n hx hb dMd_lay_154 rfl (lv_at hl 0 rfl) ?_
                                refine lv_iconst (v := 1) hx hb dMd_lay_155 (by decide) ?_
                                refine va_put (C := RMd) (T := TMd) (N := 25) (ci := 2) (v := .int 1) hx hb hg inMd tyMd tyMd_ok nmMd hown hK hP hD hS 0 rfl rfl 4 (by decide) (hg _ f_Md_19) (fun _ h9 => h9) rfl (tyMd_ok 4 (by decide)) rfl rfl (Nat.le_of_ble_eq_true rfl) dMd_lay_156 (fun H locs hP hD hS => ?_)
                                rw [mdM_1] at hP hD
                                refine lv_aload_n hx hb dMd_lay_159 rfl (lv_at hl 0 rfl) ?_
                                refine lv_iconst (v := 0) hx hb dMd_lay_160 (by decide) ?_
                                refine va_put (C := RMd) (T := TMd) (N := 25) (ci := 2) (v := .int 0) hx hb hg inMd tyMd tyMd_ok nmMd hown hK hP hD hS 0 rfl rfl 13 (by decide) (hg _ f_Md_73) (fun _ h9 => h9) rfl (tyMd_ok 13 (by decide)) rfl rfl (Nat.le_of_ble_eq_true rfl) dMd_lay_161 (fun H locs hP hD hS => ?_)
                                rw [mdM_3] at hP hD
                                refine lv_aload_n hx hb dMd_lay_164 rfl (lv_at hl 0 rfl) ?_
                                refine lv_iconst (v := 0) hx hb dMd_lay_165 (by decide) ?_
                                refine va_put (C := RMd) (T := TMd) (N := 25) (ci := 2) (v := .int 0) hx hb hg inMd tyMd tyMd_ok nmMd hown hK hP hD hS 0 rfl rfl 16 (by decide) (hg _ f_Md_76) (fun _ h9 => h9) rfl (tyMd_ok 16 (by decide)) rfl rfl (Nat.le_of_ble_eq_true rfl) dMd_lay_166 (fun H locs hP hD hS => ?_)
                                rw [mdM_4] at hP hD
                                refine lv_aload_n hx hb dMd_lay_169 rfl (lv_at hl 0 rfl) ?_
                                refine lv_iconst (v := 0) hx hb dMd_lay_170 (by decide) ?_
                                refine va_put (C := RMd) (T := TMd) (N := 25) (ci := 2) (v := .int 0) hx hb hg inMd tyMd tyMd_ok nmMd hown hK hP hD hS 0 rfl rfl 22 (by decide) (hg _ f_Md_79) (fun _ h9 => h9) rfl (tyMd_ok 22 (by decide)) rfl rfl (Nat.le_of_ble_eq_true rfl) dMd_lay_171 (fun H locs hP hD hS => ?_)
                                rw [mdM_6] at hP hD
                                refine lv_aload_n hx hb dMd_lay_174 rfl (lv_at hl 0 rfl) ?_
                                refine lv_iconst (v := 0) hx hb dMd_lay_175 (by decide) ?_
                                refine va_put (C := RMd) (T := TMd) (N := 25) (ci := 2) (v := .int 0) hx hb hg inMd tyMd tyMd_ok nmMd hown hK hP hD hS 0 rfl rfl 23 (by decide) (hg _ f_Md_82) (fun _ h9 => h9) rfl (tyMd_ok 23 (by decide)) rfl rfl (Nat.le_of_ble_eq_true rfl) dMd_lay_176 (fun H locs hP hD hS => ?_)
                                rw [mdM_7] at hP hD
                                refine lv_aload_n hx hb dMd_lay_179 rfl (lv_at hl 0 rfl) ?_
                                refine lv_iconst (v := 0) hx hb dMd_lay_180 (by decide) ?_
                                refine va_put (C := RMd) (T := TMd) (N := 25) (ci := 2) (v := .int 0) hx hb hg inMd tyMd tyMd_ok nmMd hown hK hP hD hS 0 rfl rfl 24 (by decide) (hg _ f_Md_85) (fun _ h9 => h9) rfl (tyMd_ok 24 (by decide)) rfl rfl (Nat.le_of_ble_eq_true rfl) dMd_lay_181 (fun H locs hP hD hS => ?_)
                                rw [mdM_8] at hP hD
                                exact gx_vret (u := (((((((((((((((((((μ.sA 1 (upd (μ.A 1) 0 x)).sA 1 (upd (upd (μ.A 1) 0 x) 1 y)).sA 1 (upd (upd (upd (μ.A 1) 0 x) 1 y) 2 y)).sA 1 (upd (upd (upd (upd (μ.A 1) 0 x) 1 y) 2 y) 3 z)).sA 0 (upd (μ.A 0) 0 1)).sA 0 (upd (upd (μ.A 0) 0 1) 1 (1 + x))).sA 0 (upd (upd (upd (μ.A 0) 0 1) 1 (1 + x)) 2 ((1 + x) + y))).sA 0 (upd (upd (upd (upd (μ.A 0) 0 1) 1 (1 + x)) 2 ((1 + x) + y)) 3 (((1 + x) + y) + y))).sA 2 (upd (μ.A 2) 0 1)).sA 2 (upd (upd (μ.A 2) 0 1) 1 (1 + x))).sA 2 (upd (upd (upd (μ.A 2) 0 1) 1 (1 + x)) 2 ((1 + x) + y))).sA 2 (upd (upd (upd (upd (μ.A 2) 0 1) 1 (1 + x)) 2 ((1 + x) + y)) 3 (((1 + x) + y) + y))).sA 3 (fillF (((((((((((((μ.sA 1 (upd (μ.A 1) 0 x)).sA 1 (upd (upd (μ.A 1) 0 x) 1 y)).sA 1 (upd (upd (upd (μ.A 1) 0 x) 1 y) 2 y)).sA 1 (upd (upd (upd (upd (μ.A 1) 0 x) 1 y) 2 y) 3 z)).sA 0 (upd (μ.A 0) 0 1)).sA 0 (upd (upd (μ.A 0) 0 1) 1 (1 + x))).sA 0 (upd (upd (upd (μ.A 0) 0 1) 1 (1 + x)) 2 ((1 + x) + y))).sA 0 (upd (upd (upd (upd (μ.A 0) 0 1) 1 (1 + x)) 2 ((1 + x) + y)) 3 (((1 + x) + y) + y))).sA 2 (upd (μ.A 2) 0 1)).sA 2 (upd (upd (μ.A 2) 0 1) 1 (1 + x))).sA 2 (upd (upd (upd (μ.A 2) 0 1) 1 (1 + x)) 2 ((1 + x) + y))).sA 2 (upd (upd (upd (upd (μ.A 2) 0 1) 1 (1 + x)) 2 ((1 + x) + y)) 3 (((1 + x) + y) + y))).A 3) 0 3600 0)).sA 15 (fillF ((((((((((((((μ.sA 1 (upd (μ.A 1) 0 x)).sA 1 (upd (upd (μ.A 1) 0 x) 1 y)).sA 1 (upd (upd (upd (μ.A 1) 0 x) 1 y) 2 y)).sA 1 (upd (upd (upd (upd (μ.A 1) 0 x) 1 y) 2 y) 3 z)).sA 0 (upd (μ.A 0) 0 1)).sA 0 (upd (upd (μ.A 0) 0 1) 1 (1 + x))).sA 0 (upd (upd (upd (μ.A 0) 0 1) 1 (1 + x)) 2 ((1 + x) + y))).sA 0 (upd (upd (upd (upd (μ.A 0) 0 1) 1 (1 + x)) 2 ((1 + x) + y)) 3 (((1 + x) + y) + y))).sA 2 (upd (μ.A 2) 0 1)).sA 2 (upd (upd (μ.A 2) 0 1) 1 (1 + x))).sA 2 (upd (upd (upd (μ.A 2) 0 1) 1 (1 + x)) 2 ((1 + x) + y))).sA 2 (upd (upd (upd (upd (μ.A 2) 0 1) 1 (1 + x)) 2 ((1 + x) + y)) 3 (((1 + x) + y) + y))).sA 3 (fillF (((((((((((((μ.sA 1 (upd (μ.A 1) 0 x)).sA 1 (upd (upd (μ.A 1) 0 x) 1 y)).sA 1 (upd (upd (upd (μ.A 1) 0 x) 1 y) 2 y)).sA 1 (upd (upd (upd (upd (μ.A 1) 0 x) 1 y) 2 y) 3 z)).sA 0 (upd (μ.A 0) 0 1)).sA 0 (upd (upd (μ.A 0) 0 1) 1 (1 + x))).sA 0 (upd (upd (upd (μ.A 0) 0 1) 1 (1 + x)) 2 ((1 + x) + y))).sA 0 (upd (upd (upd (upd (μ.A 0) 0 1) 1 (1 + x)) 2 ((1 + x) + y)) 3 (((1 + x) + y) + y))).sA 2 (upd (μ.A 2) 0 1)).sA 2 (upd (upd (μ.A 2) 0 1) 1 (1 + x))).sA 2 (upd (upd (upd (μ.A 2) 0 1) 1 (1 + x)) 2 ((1 + x) + y))).sA 2 (upd (upd (upd (upd (μ.A 2) 0 1) 1 (1 + x)) 2 ((1 + x) + y)) 3 (((1 + x) + y) + y))).A 3) 0 3600 0)).A 15) 0 16 0)).sM 1 1).sM 3 0).sM 4 0).sM 6 0).sM 7 0).sM 8 0) E hK hP hD hS (by unfold layM; rfl) dMd_lay_184
                              · exact absurd c_137 (by decide)
                            | succ k ih =>
                              intro t H locs ls hte hP hD hS hl
                              refine lv_iload hx hb dMd_lay_133 (lv_at hl 4 rfl) ?_
                              refine lv_bipush (v := 16) hx hb dMd_lay_135 (by decide) ?_
                              refine lv_icmp_ge (tgt := 154) hx hb dMd_lay_137 (by decide) (fun c_137 => ?_) (fun c_137 => ?_)
                              · exact absurd c_137 (nI_ge (b := 16) (show t < 16 by omega) (by decide))
                              · refine lv_aload_n hx hb dMd_lay_140 rfl (lv_at hl 0 rfl) ?_
                                refine va_get (C := RMd) (T := TMd) (N := 25) (ci := 2) (v := .ref (b 16)) hx hb hg inMd hown hK hP 0 rfl rfl 21 (by decide) (hg _ f_Md_63) (fun _ h9 => h9) rfl dMd_lay_141 ?_
                                refine lv_iload hx hb dMd_lay_144 (lv_at hl 4 rfl) ?_
                                refine lv_iconst (v := 0) hx hb dMd_lay_146 (by decide) ?_
                                refine va_iast hx hb hK hP hD hS 16 0 rfl rfl (vp_in_nI (show t < 16 by omega) (by decide)) dMd_lay_147 (fun H locs hP hD hS => ?_)
                                rw [nI_clamp (show t < 2 ^ 31 by omega)] at hP hD
                                rw [mdA_15] at hP hD
                                rw [mdT_15, mdG_15, fillF_1 _ (Nat.zero_le t)] at hP hD
                                refine lv_iinc (v := nI (t + 1)) (lv' := [(4, .int (nI (t + 1))), (0, .ref (b 0)), (1, .int x), (2, .int y), (3, .int z)]) hx hb dMd_lay_148 hl (k := 4) rfl (by rw [← nI_1]; rfl) (by decide) rfl (fun ls hl => ?_)
                                refine lv_goto (tgt := 133) hx hb dMd_lay_151 (by decide) ?_
                                exact ih (t + 1) H locs ls (by omega) hP hD hS (lv_sub hl [1, 2, 3, 4, 0] rfl)
                          exact key133 16 0 H locs ls rfl (by rw [fillF_0, mdI_15]; exact hP) (by rw [fillF_0, mdI_15]; exact hD) hS (lv_sub hl [1, 2, 3, 4, 0] rfl)
                        · exact absurd c_113 (by decide)
                      | succ k ih =>
                        intro t H locs ls hte hP hD hS hl
                        refine lv_iload hx hb dMd_lay_108 (lv_at hl 4 rfl) ?_
                        refine lv_sipush (v := 3600) hx hb dMd_lay_110 (by decide) ?_
                        refine lv_icmp_ge (tgt := 130) hx hb dMd_lay_113 (by decide) (fun c_113 => ?_) (fun c_113 => ?_)
                        · exact absurd c_113 (nI_ge (b := 3600) (show t < 3600 by omega) (by decide))
                        · refine lv_aload_n hx hb dMd_lay_116 rfl (lv_at hl 0 rfl) ?_
                          refine va_get (C := RMd) (T := TMd) (N := 25) (ci := 2) (v := .ref (b 4)) hx hb hg inMd hown hK hP 0 rfl rfl 6 (by decide) (hg _ f_Md_26) (fun _ h9 => h9) rfl dMd_lay_117 ?_
                          refine lv_iload hx hb dMd_lay_120 (lv_at hl 4 rfl) ?_
                          refine lv_iconst (v := 0) hx hb dMd_lay_122 (by decide) ?_
                          refine va_zast hx hb hK hP hD hS 4 1 rfl rfl (vp_in_nI (show t < 3600 by omega) (by decide)) dMd_lay_123 (fun H locs hP hD hS => ?_)
                          rw [show vp_nar .boolean 0 = 0 from rfl] at hP hD
                          rw [nI_clamp (show t < 2 ^ 31 by omega)] at hP hD
                          rw [mdA_3] at hP hD
                          rw [mdT_3, mdG_3, fillF_1 _ (Nat.zero_le t)] at hP hD
                          refine lv_iinc (v := nI (t + 1)) (lv' := [(4, .int (nI (t + 1))), (0, .ref (b 0)), (1, .int x), (2, .int y), (3, .int z)]) hx hb dMd_lay_124 hl (k := 4) rfl (by rw [← nI_1]; rfl) (by decide) rfl (fun ls hl => ?_)
                          refine lv_goto (tgt := 108) hx hb dMd_lay_127 (by decide) ?_
                          exact ih (t + 1) H locs ls (by omega) hP hD hS (lv_sub hl [1, 2, 3, 4, 0] rfl)
                    exact key108 3600 0 H locs ls rfl (by rw [fillF_0, mdI_3]; exact hP) (by rw [fillF_0, mdI_3]; exact hD) hS (lv_sub hl [1, 2, 3, 4, 0] rfl)
                  · exact absurd c_82'''' (by decide)
        · exact absurd c_41''' (by decide)
