/-! THE REFERENCE: about, next, many, count, make -/
theorem cn9 {x : Int32} (h1 : ¬ x < 0) (h2 : ¬ 9 < x) (h3 : x.toInt < 0 ∨ 8 < x.toInt) : x = nI 9 := by
  obtain ⟨j, hj, rfl⟩ := nI_of h1
  rw [nI_toInt hj] at h3
  have h4 : ¬ 9 < j := fun z => h2 (show nI 9 < nI j from nI_lt z hj)
  have : j = 9 := by omega
  rw [this]
/-- how many of the first t numbers are there, in area a -/
def cntM (A : Nat → Nat → Int32) (a : Int32) : Nat → Nat
  | 0 => 0
  | t + 1 => cntM A a t + (if ¬ A 3 t = 0 ∧ A 4 t = a then 1 else 0)
/-- the least address behind x among the first t numbers; 0 if there is none -/
def nxM (A : Nat → Nat → Int32) (x : Int32) : Nat → Int32
  | 0 => 0
  | t + 1 => if (¬ A 3 t = 0 ∧ x < A 5 t) ∧ (nxM A x t = 0 ∨ A 5 t < nxM A x t) then A 5 t else nxM A x t
def abM (A : Nat → Nat → Int32) (k : Nat) (w : Int32) : Int32 := if w = 0 then A 6 k else if w = 1 then A 7 k else if w = 2 then A 8 k else A 4 k
def cnM (μ : mSt) (rw j : Nat) : Int32 := match j with
  | 0 => nI (cntM μ.A 0 3600)
  | 1 => nI (cntM μ.A (μ.M 1) 3600)
  | 2 => nI (cntM μ.A 3 3600)
  | 3 => μ.A 2 0 - μ.A 0 0
  | 4 => μ.A 2 rw - μ.A 0 rw
  | 5 => μ.A 2 3 - μ.A 0 3
  | 6 => μ.M 6
  | 7 => μ.M 7
  | 8 => μ.M 8
  | _ => μ.M 1 - 1
set_option maxHeartbeats 4000000 in
set_option maxRecDepth 100000 in
/-- about (no object) -/
theorem qMd_about_no1 (l : Launch) (D : va_G) (cI cZ : ClassId) (b : Nat → Nat) (μ : mSt) (x w ko : Int32) (ho : objR μ x ko) (hko : ko < 0) : gx_Mi l yMd_about (Cond.code yMd_about cMd_about 4 (some .int) :: gW) (gR 3) D gC (mdT cI cZ) (mdW cI cZ b) μ [.ref (b 0), .int x, .int w] (fun r u => r = 0 ∧ u = μ.sM 0 1) := by
  refine gx_Mi.of (cc := cMd_about) (maxL := 4) (ret := (some .int)) (by decide) rfl (Nat.le_of_ble_eq_true rfl) ?_
  intro p e s m args below meth c ls A E hA hK hP hD hS hl
  obtain ⟨hx, hb, hr, hml, hts, hown, hlocks, hnm⟩ := id E
  have hg : ∀ w ∈ gW, w.before args s = true := fun w h => hts w (List.mem_cons_of_mem _ h)
  have hown : s.vm.findClass "NurseryRowModel" = some m.cls := hown
  have hl : lv_has ls 4 [(0, .ref (b 0)), (1, .int x), (2, .int w)] := hl
  refine lv_aload_n hx hb dMd_about_0 rfl (lv_at hl 0 rfl) ?_
  refine lv_iload_n hx hb dMd_about_1 rfl (lv_at hl 1 rfl) ?_
  refine gx_callp (C := "NurseryRowModel") (As := [.int x]) (rest := []) E (qMd_object l D cI cZ b μ x ko ho) (gx_cwV hts l_Md_96 k_Md_object ki_Md_object ke_Md_object z_Md n_Md_object ⟨by decide, by decide⟩) hK hP hD (va_recv hK hP (ci := 2) (q0 := 0) rfl rfl) hl.1 rfl rfl (Nat.le_of_ble_eq_true rfl) ⟨Nat.zero_le _, Nat.zero_le _⟩ dMd_about_2 ?_
  refine lv_istore_n (lv' := [(3, .int ko), (0, .ref (b 0)), (1, .int x), (2, .int w)]) hx hb dMd_about_5 rfl hl (by decide) rfl (fun ls hl => ?_)
  refine lv_aload_n hx hb dMd_about_6 rfl (lv_at hl 1 rfl) ?_
  refine lv_iload_n hx hb dMd_about_7 rfl (lv_at hl 0 rfl) ?_
  refine lv_if_lt (tgt := 15) hx hb dMd_about_8 (by decide) (fun c_8 => ?_) (fun c_8 => ?_)
  · refine lv_iconst (v := 0) hx hb dMd_about_15 (by decide) ?_
    refine lv_iload_n hx hb dMd_about_16 rfl (lv_at hl 3 rfl) ?_
    refine lv_if_lt (tgt := 29) hx hb dMd_about_17 (by decide) (fun c_17 => ?_) (fun c_17 => ?_)
    · refine lv_iconst (v := 0) hx hb dMd_about_29 (by decide) ?_
      refine gx_calli (C := "NurseryRowModel") (As := [.int 0, .int 0]) (rest := []) E (qMd_goes l D cI cZ b μ 0 0) (gx_cwV hts l_Md_88 k_Md_goes ki_Md_goes ke_Md_goes z_Md n_Md_goes ⟨by decide, by decide⟩) hK hP hD hS hA (va_recv hK hP (ci := 2) (q0 := 0) rfl rfl) hl.1 rfl rfl (Nat.le_of_ble_eq_true rfl) ⟨by decide, by decide⟩ dMd_about_30 (fun r_1 u_2 H locs hq_3 hP hD hS => ?_)
      obtain ⟨hr1, hu1⟩ := hq_3
      have hr1 : r_1 = 0 := hr1
      have hu1 : u_2 = μ.sM 0 1 := hu1
      subst hr1; subst hu1
      refine lv_if_ne (tgt := 38) hx hb dMd_about_33 (by decide) (fun c_33 => ?_) (fun c_33 => ?_)
      · exact absurd c_33 (by decide)
      · refine lv_iconst (v := 0) hx hb dMd_about_36 (by decide) ?_
        exact gx_iret (u := μ.sM 0 1) E hK hP hD hS ⟨rfl, rfl⟩ dMd_about_37
    · refine lv_iload_n hx hb dMd_about_20 rfl (lv_at hl 3 rfl) ?_
      refine lv_iconst (v := 3) hx hb dMd_about_21 (by decide) ?_
      refine lv_icmp_gt (tgt := 29) hx hb dMd_about_22 (by decide) (fun c_22 => ?_) (fun c_22 => ?_)
      · refine lv_iconst (v := 0) hx hb dMd_about_29 (by decide) ?_
        refine gx_calli (C := "NurseryRowModel") (As := [.int 0, .int 0]) (rest := []) E (qMd_goes l D cI cZ b μ 0 0) (gx_cwV hts l_Md_88 k_Md_goes ki_Md_goes ke_Md_goes z_Md n_Md_goes ⟨by decide, by decide⟩) hK hP hD hS hA (va_recv hK hP (ci := 2) (q0 := 0) rfl rfl) hl.1 rfl rfl (Nat.le_of_ble_eq_true rfl) ⟨by decide, by decide⟩ dMd_about_30 (fun r_4 u_5 H locs hq_6 hP hD hS => ?_)
        obtain ⟨hr1, hu1⟩ := hq_6
        have hr1 : r_4 = 0 := hr1
        have hu1 : u_5 = μ.sM 0 1 := hu1
        subst hr1; subst hu1
        refine lv_if_ne (tgt := 38) hx hb dMd_about_33 (by decide) (fun c_33 => ?_) (fun c_33 => ?_)
        · exact absurd c_33 (by decide)
        · refine lv_iconst (v := 0) hx hb dMd_about_36 (by decide) ?_
          exact gx_iret (u := μ.sM 0 1) E hK hP hD hS ⟨rfl, rfl⟩ dMd_about_37
      · refine lv_iconst (v := 1) hx hb dMd_about_25 (by decide) ?_
        refine lv_goto (tgt := 30) hx hb dMd_about_26 (by decide) ?_
        refine gx_calli (C := "NurseryRowModel") (As := [.int 0, .int 1]) (rest := []) E (qMd_goes l D cI cZ b μ 0 1) (gx_cwV hts l_Md_88 k_Md_goes ki_Md_goes ke_Md_goes z_Md n_Md_goes ⟨by decide, by decide⟩) hK hP hD hS hA (va_recv hK hP (ci := 2) (q0 := 0) rfl rfl) hl.1 rfl rfl (Nat.le_of_ble_eq_true rfl) ⟨by decide, by decide⟩ dMd_about_30 (fun r_7 u_8 H locs hq_9 hP hD hS => ?_)
        obtain ⟨hr1, hu1⟩ := hq_9
        have hr1 : r_7 = 0 := hr1
        have hu1 : u_8 = μ.sM 0 1 := hu1
        subst hr1; subst hu1
        refine lv_if_ne (tgt := 38) hx hb dMd_about_33 (by decide) (fun c_33 => ?_) (fun c_33 => ?_)
        · exact absurd c_33 (by decide)
        · refine lv_iconst (v := 0) hx hb dMd_about_36 (by decide) ?_
          exact gx_iret (u := μ.sM 0 1) E hK hP hD hS ⟨rfl, rfl⟩ dMd_about_37
  · exact absurd c_8 (not_not_intro hko)
set_option maxHeartbeats 4000000 in
set_option maxRecDepth 100000 in
/-- about (nothing of that kind) -/
theorem qMd_about_no2 (l : Launch) (D : va_G) (cI cZ : ClassId) (b : Nat → Nat) (μ : mSt) (x w ko : Int32) (ho : objR μ x ko) (hko : ¬ ko < 0) (hno : ¬ (¬ w < 0 ∧ ¬ 3 < w)) : gx_Mi l yMd_about (Cond.code yMd_about cMd_about 4 (some .int) :: gW) (gR 3) D gC (mdT cI cZ) (mdW cI cZ b) μ [.ref (b 0), .int x, .int w] (fun r u => r = 0 ∧ u = μ.sM 0 2) := by
  refine gx_Mi.of (cc := cMd_about) (maxL := 4) (ret := (some .int)) (by decide) rfl (Nat.le_of_ble_eq_true rfl) ?_
  intro p e s m args below meth c ls A E hA hK hP hD hS hl
  obtain ⟨hx, hb, hr, hml, hts, hown, hlocks, hnm⟩ := id E
  have hg : ∀ w ∈ gW, w.before args s = true := fun w h => hts w (List.mem_cons_of_mem _ h)
  have hown : s.vm.findClass "NurseryRowModel" = some m.cls := hown
  have hl : lv_has ls 4 [(0, .ref (b 0)), (1, .int x), (2, .int w)] := hl
  refine lv_aload_n hx hb dMd_about_0 rfl (lv_at hl 0 rfl) ?_
  refine lv_iload_n hx hb dMd_about_1 rfl (lv_at hl 1 rfl) ?_
  refine gx_callp (C := "NurseryRowModel") (As := [.int x]) (rest := []) E (qMd_object l D cI cZ b μ x ko ho) (gx_cwV hts l_Md_96 k_Md_object ki_Md_object ke_Md_object z_Md n_Md_object ⟨by decide, by decide⟩) hK hP hD (va_recv hK hP (ci := 2) (q0 := 0) rfl rfl) hl.1 rfl rfl (Nat.le_of_ble_eq_true rfl) ⟨Nat.zero_le _, Nat.zero_le _⟩ dMd_about_2 ?_
  refine lv_istore_n (lv' := [(3, .int ko), (0, .ref (b 0)), (1, .int x), (2, .int w)]) hx hb dMd_about_5 rfl hl (by decide) rfl (fun ls hl => ?_)
  refine lv_aload_n hx hb dMd_about_6 rfl (lv_at hl 1 rfl) ?_
  refine lv_iload_n hx hb dMd_about_7 rfl (lv_at hl 0 rfl) ?_
  refine lv_if_lt (tgt := 15) hx hb dMd_about_8 (by decide) (fun c_8 => ?_) (fun c_8 => ?_)
  · exact absurd c_8 hko
  · refine lv_iconst (v := 1) hx hb dMd_about_11 (by decide) ?_
    refine lv_goto (tgt := 16) hx hb dMd_about_12 (by decide) ?_
    refine lv_iload_n hx hb dMd_about_16 rfl (lv_at hl 3 rfl) ?_
    refine lv_if_lt (tgt := 29) hx hb dMd_about_17 (by decide) (fun c_17 => ?_) (fun c_17 => ?_)
    · refine lv_iconst (v := 0) hx hb dMd_about_29 (by decide) ?_
      refine gx_calli (C := "NurseryRowModel") (As := [.int 1, .int 0]) (rest := []) E (qMd_goes l D cI cZ b μ 1 0) (gx_cwV hts l_Md_88 k_Md_goes ki_Md_goes ke_Md_goes z_Md n_Md_goes ⟨by decide, by decide⟩) hK hP hD hS hA (va_recv hK hP (ci := 2) (q0 := 0) rfl rfl) hl.1 rfl rfl (Nat.le_of_ble_eq_true rfl) ⟨by decide, by decide⟩ dMd_about_30 (fun r_1 u_2 H locs hq_3 hP hD hS => ?_)
      obtain ⟨hr1, hu1⟩ := hq_3
      have hr1 : r_1 = 0 := hr1
      have hu1 : u_2 = μ.sM 0 2 := hu1
      subst hr1; subst hu1
      refine lv_if_ne (tgt := 38) hx hb dMd_about_33 (by decide) (fun c_33 => ?_) (fun c_33 => ?_)
      · exact absurd c_33 (by decide)
      · refine lv_iconst (v := 0) hx hb dMd_about_36 (by decide) ?_
        exact gx_iret (u := μ.sM 0 2) E hK hP hD hS ⟨rfl, rfl⟩ dMd_about_37
    · refine lv_iload_n hx hb dMd_about_20 rfl (lv_at hl 3 rfl) ?_
      refine lv_iconst (v := 3) hx hb dMd_about_21 (by decide) ?_
      refine lv_icmp_gt (tgt := 29) hx hb dMd_about_22 (by decide) (fun c_22 => ?_) (fun c_22 => ?_)
      · refine lv_iconst (v := 0) hx hb dMd_about_29 (by decide) ?_
        refine gx_calli (C := "NurseryRowModel") (As := [.int 1, .int 0]) (rest := []) E (qMd_goes l D cI cZ b μ 1 0) (gx_cwV hts l_Md_88 k_Md_goes ki_Md_goes ke_Md_goes z_Md n_Md_goes ⟨by decide, by decide⟩) hK hP hD hS hA (va_recv hK hP (ci := 2) (q0 := 0) rfl rfl) hl.1 rfl rfl (Nat.le_of_ble_eq_true rfl) ⟨by decide, by decide⟩ dMd_about_30 (fun r_4 u_5 H locs hq_6 hP hD hS => ?_)
        obtain ⟨hr1, hu1⟩ := hq_6
        have hr1 : r_4 = 0 := hr1
        have hu1 : u_5 = μ.sM 0 2 := hu1
        subst hr1; subst hu1
        refine lv_if_ne (tgt := 38) hx hb dMd_about_33 (by decide) (fun c_33 => ?_) (fun c_33 => ?_)
        · exact absurd c_33 (by decide)
        · refine lv_iconst (v := 0) hx hb dMd_about_36 (by decide) ?_
          exact gx_iret (u := μ.sM 0 2) E hK hP hD hS ⟨rfl, rfl⟩ dMd_about_37
      · exact (hno ⟨c_17, c_22⟩).elim
set_option maxHeartbeats 4000000 in
set_option maxRecDepth 100000 in
/-- about -/
theorem qMd_about_ok (l : Launch) (D : va_G) (cI cZ : ClassId) (b : Nat → Nat) (μ : mSt) (x w : Int32) (k : Nat) (ho : objR μ x (nI k)) (hk : k < 3600) (hok : ¬ w < 0 ∧ ¬ 3 < w) : gx_Mi l yMd_about (Cond.code yMd_about cMd_about 4 (some .int) :: gW) (gR 3) D gC (mdT cI cZ) (mdW cI cZ b) μ [.ref (b 0), .int x, .int w] (fun r u => r = abM μ.A k w ∧ u = μ.sM 0 0) := by
  refine gx_Mi.of (cc := cMd_about) (maxL := 4) (ret := (some .int)) (by decide) rfl (Nat.le_of_ble_eq_true rfl) ?_
  intro p e s m args below meth c ls A E hA hK hP hD hS hl
  obtain ⟨hx, hb, hr, hml, hts, hown, hlocks, hnm⟩ := id E
  have hg : ∀ w ∈ gW, w.before args s = true := fun w h => hts w (List.mem_cons_of_mem _ h)
  have hown : s.vm.findClass "NurseryRowModel" = some m.cls := hown
  have hl : lv_has ls 4 [(0, .ref (b 0)), (1, .int x), (2, .int w)] := hl
  refine lv_aload_n hx hb dMd_about_0 rfl (lv_at hl 0 rfl) ?_
  refine lv_iload_n hx hb dMd_about_1 rfl (lv_at hl 1 rfl) ?_
  refine gx_callp (C := "NurseryRowModel") (As := [.int x]) (rest := []) E (qMd_object l D cI cZ b μ x (nI k) ho) (gx_cwV hts l_Md_96 k_Md_object ki_Md_object ke_Md_object z_Md n_Md_object ⟨by decide, by decide⟩) hK hP hD (va_recv hK hP (ci := 2) (q0 := 0) rfl rfl) hl.1 rfl rfl (Nat.le_of_ble_eq_true rfl) ⟨Nat.zero_le _, Nat.zero_le _⟩ dMd_about_2 ?_
  refine lv_istore_n (lv' := [(3, .int (nI k)), (0, .ref (b 0)), (1, .int x), (2, .int w)]) hx hb dMd_about_5 rfl hl (by decide) rfl (fun ls hl => ?_)
  refine lv_aload_n hx hb dMd_about_6 rfl (lv_at hl 1 rfl) ?_
  refine lv_iload_n hx hb dMd_about_7 rfl (lv_at hl 0 rfl) ?_
  refine lv_if_lt (tgt := 15) hx hb dMd_about_8 (by decide) (fun c_8 => ?_) (fun c_8 => ?_)
  · exact absurd c_8 (nI_pos (Nat.lt_trans hk (by decide)))
  · refine lv_iconst (v := 1) hx hb dMd_about_11 (by decide) ?_
    refine lv_goto (tgt := 16) hx hb dMd_about_12 (by decide) ?_
    refine lv_iload_n hx hb dMd_about_16 rfl (lv_at hl 3 rfl) ?_
    refine lv_if_lt (tgt := 29) hx hb dMd_about_17 (by decide) (fun c_17 => ?_) (fun c_17 => ?_)
    · exact absurd c_17 hok.1
    · refine lv_iload_n hx hb dMd_about_20 rfl (lv_at hl 3 rfl) ?_
      refine lv_iconst (v := 3) hx hb dMd_about_21 (by decide) ?_
      refine lv_icmp_gt (tgt := 29) hx hb dMd_about_22 (by decide) (fun c_22 => ?_) (fun c_22 => ?_)
      · exact absurd c_22 hok.2
      · refine lv_iconst (v := 1) hx hb dMd_about_25 (by decide) ?_
        refine lv_goto (tgt := 30) hx hb dMd_about_26 (by decide) ?_
        refine gx_calli (C := "NurseryRowModel") (As := [.int 1, .int 1]) (rest := []) E (qMd_goes l D cI cZ b μ 1 1) (gx_cwV hts l_Md_88 k_Md_goes ki_Md_goes ke_Md_goes z_Md n_Md_goes ⟨by decide, by decide⟩) hK hP hD hS hA (va_recv hK hP (ci := 2) (q0 := 0) rfl rfl) hl.1 rfl rfl (Nat.le_of_ble_eq_true rfl) ⟨by decide, by decide⟩ dMd_about_30 (fun r_1 u_2 H locs hq_3 hP hD hS => ?_)
        obtain ⟨hr1, hu1⟩ := hq_3
        have hr1 : r_1 = 1 := hr1
        have hu1 : u_2 = μ.sM 0 0 := hu1
        subst hr1; subst hu1
        refine lv_if_ne (tgt := 38) hx hb dMd_about_33 (by decide) (fun c_33 => ?_) (fun c_33 => ?_)
        · refine lv_iload_n hx hb dMd_about_38 rfl (lv_at hl 3 rfl) ?_
          refine lv_if_ne (tgt := 51) hx hb dMd_about_39 (by decide) (fun c_39 => ?_) (fun c_39 => ?_)
          · refine lv_iload_n hx hb dMd_about_51 rfl (lv_at hl 3 rfl) ?_
            refine lv_iconst (v := 1) hx hb dMd_about_52 (by decide) ?_
            refine lv_icmp_ne (tgt := 65) hx hb dMd_about_53 (by decide) (fun c_53 => ?_) (fun c_53 => ?_)
            · refine lv_iload_n hx hb dMd_about_65 rfl (lv_at hl 3 rfl) ?_
              refine lv_iconst (v := 2) hx hb dMd_about_66 (by decide) ?_
              refine lv_icmp_ne (tgt := 79) hx hb dMd_about_67 (by decide) (fun c_67 => ?_) (fun c_67 => ?_)
              · refine lv_aload_n hx hb dMd_about_79 rfl (lv_at hl 1 rfl) ?_
                refine va_get (C := RMd) (T := TMd) (N := 25) (ci := 2) (v := .ref (b 5)) hx hb hg inMd hown hK hP 0 rfl rfl 7 (by decide) (hg _ f_Md_30) (fun _ h9 => h9) rfl dMd_about_80 ?_
                refine lv_iload_n hx hb dMd_about_83 rfl (lv_at hl 0 rfl) ?_
                refine va_iald hx hb hK hP 5 0 rfl rfl (vp_in_nI (show k < 3600 from hk) (by decide)) dMd_about_84 ?_
                refine gx_top (z := (μ.A 4) k) (congrArg _ (nI_clamp (Nat.lt_trans (show k < 3600 from hk) (by decide)))) ?_
                exact gx_iret (u := μ.sM 0 0) E hK hP hD hS ⟨by simp [abM, c_39, c_53, c_67], rfl⟩ dMd_about_85
              · refine lv_aload_n hx hb dMd_about_70 rfl (lv_at hl 1 rfl) ?_
                refine va_get (C := RMd) (T := TMd) (N := 25) (ci := 2) (v := .ref (b 9)) hx hb hg inMd hown hK hP 0 rfl rfl 11 (by decide) (hg _ f_Md_42) (fun _ h9 => h9) rfl dMd_about_71 ?_
                refine lv_iload_n hx hb dMd_about_74 rfl (lv_at hl 0 rfl) ?_
                refine va_iald hx hb hK hP 9 0 rfl rfl (vp_in_nI (show k < 3600 from hk) (by decide)) dMd_about_75 ?_
                refine gx_top (z := (μ.A 8) k) (congrArg _ (nI_clamp (Nat.lt_trans (show k < 3600 from hk) (by decide)))) ?_
                refine lv_goto (tgt := 85) hx hb dMd_about_76 (by decide) ?_
                exact gx_iret (u := μ.sM 0 0) E hK hP hD hS ⟨by simp [abM, c_39, c_53, c_67], rfl⟩ dMd_about_85
            · refine lv_aload_n hx hb dMd_about_56 rfl (lv_at hl 1 rfl) ?_
              refine va_get (C := RMd) (T := TMd) (N := 25) (ci := 2) (v := .ref (b 8)) hx hb hg inMd hown hK hP 0 rfl rfl 10 (by decide) (hg _ f_Md_39) (fun _ h9 => h9) rfl dMd_about_57 ?_
              refine lv_iload_n hx hb dMd_about_60 rfl (lv_at hl 0 rfl) ?_
              refine va_iald hx hb hK hP 8 0 rfl rfl (vp_in_nI (show k < 3600 from hk) (by decide)) dMd_about_61 ?_
              refine gx_top (z := (μ.A 7) k) (congrArg _ (nI_clamp (Nat.lt_trans (show k < 3600 from hk) (by decide)))) ?_
              refine lv_goto (tgt := 85) hx hb dMd_about_62 (by decide) ?_
              exact gx_iret (u := μ.sM 0 0) E hK hP hD hS ⟨by simp [abM, c_39, c_53], rfl⟩ dMd_about_85
          · refine lv_aload_n hx hb dMd_about_42 rfl (lv_at hl 1 rfl) ?_
            refine va_get (C := RMd) (T := TMd) (N := 25) (ci := 2) (v := .ref (b 7)) hx hb hg inMd hown hK hP 0 rfl rfl 9 (by decide) (hg _ f_Md_36) (fun _ h9 => h9) rfl dMd_about_43 ?_
            refine lv_iload_n hx hb dMd_about_46 rfl (lv_at hl 0 rfl) ?_
            refine va_iald hx hb hK hP 7 0 rfl rfl (vp_in_nI (show k < 3600 from hk) (by decide)) dMd_about_47 ?_
            refine gx_top (z := (μ.A 6) k) (congrArg _ (nI_clamp (Nat.lt_trans (show k < 3600 from hk) (by decide)))) ?_
            refine lv_goto (tgt := 85) hx hb dMd_about_48 (by decide) ?_
            exact gx_iret (u := μ.sM 0 0) E hK hP hD hS ⟨by simp [abM, c_39], rfl⟩ dMd_about_85
        · exact absurd c_33 (by decide)
set_option maxHeartbeats 4000000 in
set_option maxRecDepth 100000 in
/-- how many are in area z -/
theorem qMd_many (l : Launch) (D : va_G) (cI cZ : ClassId) (b : Nat → Nat) (μ : mSt) (z : Int32) : gx_Mp l yMd_many (Cond.code yMd_many cMd_many 4 (some .int) :: gW) (gR 0) D gC (mdT cI cZ) (mdW cI cZ b μ) [.ref (b 0), .int z] (nI (cntM μ.A z 3600)) := by
  refine gx_Mp.of (cc := cMd_many) (maxL := 4) (ret := (some .int)) (by decide) rfl (Nat.le_of_ble_eq_true rfl) ?_
  intro p e s m args below meth c ls E hK hP hD hl
  obtain ⟨hx, hb, hr, hml, hts, hown, hlocks, hnm⟩ := id E
  have hg : ∀ w ∈ gW, w.before args s = true := fun w h => hts w (List.mem_cons_of_mem _ h)
  have hown : s.vm.findClass "NurseryRowModel" = some m.cls := hown
  have hl : lv_has ls 4 [(0, .ref (b 0)), (1, .int z)] := hl
  refine lv_iconst (v := 0) hx hb dMd_many_0 (by decide) ?_
  refine lv_istore_n (lv' := [(2, .int 0), (0, .ref (b 0)), (1, .int z)]) hx hb dMd_many_1 rfl hl (by decide) rfl (fun ls hl => ?_)
  refine lv_iconst (v := 0) hx hb dMd_many_2 (by decide) ?_
  refine lv_istore_n (lv' := [(3, .int 0), (2, .int 0), (0, .ref (b 0)), (1, .int z)]) hx hb dMd_many_3 rfl hl (by decide) rfl (fun ls hl => ?_)
  have key : ∀ (n : Nat) (t : Nat) (ls : Array Slot), 3600 - t < n → (t ≤ 3600) → lv_has ls 4 [(0, .ref (b 0)), (1, .int z), (2, .int (nI (cntM μ.A z t))), (3, .int (nI t))] → W p l e (gR 0) s m args below meth c s.heap [] 0 0 (MQ below (QcRead (nI (cntM μ.A z 3600))) args s 0 0 (fun _ => False)) (F0 m 4 ls []) := by
    intro n
    induction n with
    | zero => intro t ls hm; exact absurd hm (Nat.not_lt_zero _)
    | succ n ih =>
      intro t ls hm ht hl
      refine lv_iload_n hx hb dMd_many_4 rfl (lv_at hl 3 rfl) ?_
      refine lv_sipush (v := 3600) hx hb dMd_many_5 (by decide) ?_
      refine lv_icmp_ge (tgt := 44) hx hb dMd_many_8 (by decide) (fun c_8 => ?_) (fun c_8 => ?_)
      · refine lv_iload_n hx hb dMd_many_44 rfl (lv_at hl 2 rfl) ?_
        exact gx_pret E (by rw [show t = 3600 from Nat.le_antisymm ht (Nat.not_lt.mp fun z => nI_ge (b := 3600) z (by decide) c_8)]) dMd_many_45
      · have hlt : t < 3600 := Nat.not_le.mp fun z => c_8 (nI_le (a := 3600) z (by omega))
        refine lv_aload_n hx hb dMd_many_11 rfl (lv_at hl 0 rfl) ?_
        refine va_get (C := RMd) (T := TMd) (N := 25) (ci := 2) (v := .ref (b 4)) hx hb hg inMd hown hK hP 0 rfl rfl 6 (by decide) (hg _ f_Md_26) (fun _ h9 => h9) rfl dMd_many_12 ?_
        refine lv_iload_n hx hb dMd_many_15 rfl (lv_at hl 3 rfl) ?_
        refine va_zald hx hb hK hP 4 1 rfl rfl (vp_in_nI (show t < 3600 from hlt) (by decide)) dMd_many_16 ?_
        refine gx_top (z := (μ.A 3) t) (congrArg _ (nI_clamp (Nat.lt_trans (show t < 3600 from hlt) (by decide)))) ?_
        refine lv_if_eq (tgt := 36) hx hb dMd_many_17 (by decide) (fun c_17 => ?_) (fun c_17 => ?_)
        · refine lv_iload_n hx hb dMd_many_36 rfl (lv_at hl 2 rfl) ?_
          refine gx_top (z := nI (cntM μ.A z (t + 1))) (by simp [cntM, c_17]) ?_
          refine lv_istore_n (lv' := [(2, .int (nI (cntM μ.A z (t + 1)))), (0, .ref (b 0)), (1, .int z), (3, .int (nI t))]) hx hb dMd_many_37 rfl hl (by decide) rfl (fun ls hl => ?_)
          refine lv_iinc (v := nI (t + 1)) (lv' := [(3, .int (nI (t + 1))), (2, .int (nI (cntM μ.A z (t + 1)))), (0, .ref (b 0)), (1, .int z)]) hx hb dMd_many_38 hl (k := 3) rfl (by rw [← nI_1]; rfl) (by decide) rfl (fun ls hl => ?_)
          refine lv_goto (tgt := 4) hx hb dMd_many_41 (by decide) ?_
          exact ih (t + 1) ls (by omega) (by omega) (lv_sub hl [2, 3, 1, 0] rfl)
        · refine lv_aload_n hx hb dMd_many_20 rfl (lv_at hl 0 rfl) ?_
          refine va_get (C := RMd) (T := TMd) (N := 25) (ci := 2) (v := .ref (b 5)) hx hb hg inMd hown hK hP 0 rfl rfl 7 (by decide) (hg _ f_Md_30) (fun _ h9 => h9) rfl dMd_many_21 ?_
          refine lv_iload_n hx hb dMd_many_24 rfl (lv_at hl 3 rfl) ?_
          refine va_iald hx hb hK hP 5 0 rfl rfl (vp_in_nI (show t < 3600 from hlt) (by decide)) dMd_many_25 ?_
          refine gx_top (z := (μ.A 4) t) (congrArg _ (nI_clamp (Nat.lt_trans (show t < 3600 from hlt) (by decide)))) ?_
          refine lv_iload_n hx hb dMd_many_26 rfl (lv_at hl 1 rfl) ?_
          refine lv_icmp_ne (tgt := 36) hx hb dMd_many_27 (by decide) (fun c_27 => ?_) (fun c_27 => ?_)
          · refine lv_iload_n hx hb dMd_many_36 rfl (lv_at hl 2 rfl) ?_
            refine gx_top (z := nI (cntM μ.A z (t + 1))) (by simp [cntM, c_17, c_27]) ?_
            refine lv_istore_n (lv' := [(2, .int (nI (cntM μ.A z (t + 1)))), (0, .ref (b 0)), (1, .int z), (3, .int (nI t))]) hx hb dMd_many_37 rfl hl (by decide) rfl (fun ls hl => ?_)
            refine lv_iinc (v := nI (t + 1)) (lv' := [(3, .int (nI (t + 1))), (2, .int (nI (cntM μ.A z (t + 1)))), (0, .ref (b 0)), (1, .int z)]) hx hb dMd_many_38 hl (k := 3) rfl (by rw [← nI_1]; rfl) (by decide) rfl (fun ls hl => ?_)
            refine lv_goto (tgt := 4) hx hb dMd_many_41 (by decide) ?_
            exact ih (t + 1) ls (by omega) (by omega) (lv_sub hl [2, 3, 1, 0] rfl)
          · refine lv_iload_n hx hb dMd_many_30 rfl (lv_at hl 2 rfl) ?_
            refine lv_iconst (v := 1) hx hb dMd_many_31 (by decide) ?_
            refine lv_iadd hx hb dMd_many_32 ?_
            refine lv_goto (tgt := 37) hx hb dMd_many_33 (by decide) ?_
            refine gx_top (z := nI (cntM μ.A z (t + 1))) (by simp [cntM, c_17, c_27, ← nI_1]) ?_
            refine lv_istore_n (lv' := [(2, .int (nI (cntM μ.A z (t + 1)))), (0, .ref (b 0)), (1, .int z), (3, .int (nI t))]) hx hb dMd_many_37 rfl hl (by decide) rfl (fun ls hl => ?_)
            refine lv_iinc (v := nI (t + 1)) (lv' := [(3, .int (nI (t + 1))), (2, .int (nI (cntM μ.A z (t + 1)))), (0, .ref (b 0)), (1, .int z)]) hx hb dMd_many_38 hl (k := 3) rfl (by rw [← nI_1]; rfl) (by decide) rfl (fun ls hl => ?_)
            refine lv_goto (tgt := 4) hx hb dMd_many_41 (by decide) ?_
            exact ih (t + 1) ls (by omega) (by omega) (lv_sub hl [2, 3, 1, 0] rfl)
  exact key ((3600 - 0) + 1) 0 ls (Nat.lt_succ_self _) (Nat.zero_le _) (lv_sub hl [2, 3, 1, 0] rfl)
set_option maxHeartbeats 4000000 in
set_option maxRecDepth 100000 in
/-- counts (it throws) -/
theorem qMd_count_no (l : Launch) (D : va_G) (cI cZ : ClassId) (b : Nat → Nat) (μ : mSt) (x : Int32) (hno : ¬ (¬ x < 0 ∧ ¬ 9 < x)) : gx_Mi l yMd_count (Cond.code yMd_count cMd_count 2 (some .int) :: gW) (gR 3) D gC (mdT cI cZ) (mdW cI cZ b) μ [.ref (b 0), .int x] (fun r u => r = 0 ∧ u = μ.sM 0 1) := by
  refine gx_Mi.of (cc := cMd_count) (maxL := 2) (ret := (some .int)) (by decide) rfl (Nat.le_of_ble_eq_true rfl) ?_
  intro p e s m args below meth c ls A E hA hK hP hD hS hl
  obtain ⟨hx, hb, hr, hml, hts, hown, hlocks, hnm⟩ := id E
  have hg : ∀ w ∈ gW, w.before args s = true := fun w h => hts w (List.mem_cons_of_mem _ h)
  have hown : s.vm.findClass "NurseryRowModel" = some m.cls := hown
  have hl : lv_has ls 2 [(0, .ref (b 0)), (1, .int x)] := hl
  refine lv_aload_n hx hb dMd_count_0 rfl (lv_at hl 0 rfl) ?_
  refine lv_iload_n hx hb dMd_count_1 rfl (lv_at hl 1 rfl) ?_
  refine lv_if_lt (tgt := 15) hx hb dMd_count_2 (by decide) (fun c_2 => ?_) (fun c_2 => ?_)
  · refine lv_iconst (v := 0) hx hb dMd_count_15 (by decide) ?_
    refine lv_iconst (v := 1) hx hb dMd_count_16 (by decide) ?_
    refine gx_calli (C := "NurseryRowModel") (As := [.int 0, .int 1]) (rest := []) E (qMd_goes l D cI cZ b μ 0 1) (gx_cwV hts l_Md_88 k_Md_goes ki_Md_goes ke_Md_goes z_Md n_Md_goes ⟨by decide, by decide⟩) hK hP hD hS hA (va_recv hK hP (ci := 2) (q0 := 0) rfl rfl) hl.1 rfl rfl (Nat.le_of_ble_eq_true rfl) ⟨by decide, by decide⟩ dMd_count_17 (fun r_1 u_2 H locs hq_3 hP hD hS => ?_)
    obtain ⟨hr1, hu1⟩ := hq_3
    have hr1 : r_1 = 0 := hr1
    have hu1 : u_2 = μ.sM 0 1 := hu1
    subst hr1; subst hu1
    refine lv_if_ne (tgt := 25) hx hb dMd_count_20 (by decide) (fun c_20 => ?_) (fun c_20 => ?_)
    · exact absurd c_20 (by decide)
    · refine lv_iconst (v := 0) hx hb dMd_count_23 (by decide) ?_
      exact gx_iret (u := μ.sM 0 1) E hK hP hD hS ⟨rfl, rfl⟩ dMd_count_24
  · refine lv_iload_n hx hb dMd_count_5 rfl (lv_at hl 1 rfl) ?_
    refine lv_bipush (v := 9) hx hb dMd_count_6 (by decide) ?_
    refine lv_icmp_gt (tgt := 15) hx hb dMd_count_8 (by decide) (fun c_8 => ?_) (fun c_8 => ?_)
    · refine lv_iconst (v := 0) hx hb dMd_count_15 (by decide) ?_
      refine lv_iconst (v := 1) hx hb dMd_count_16 (by decide) ?_
      refine gx_calli (C := "NurseryRowModel") (As := [.int 0, .int 1]) (rest := []) E (qMd_goes l D cI cZ b μ 0 1) (gx_cwV hts l_Md_88 k_Md_goes ki_Md_goes ke_Md_goes z_Md n_Md_goes ⟨by decide, by decide⟩) hK hP hD hS hA (va_recv hK hP (ci := 2) (q0 := 0) rfl rfl) hl.1 rfl rfl (Nat.le_of_ble_eq_true rfl) ⟨by decide, by decide⟩ dMd_count_17 (fun r_4 u_5 H locs hq_6 hP hD hS => ?_)
      obtain ⟨hr1, hu1⟩ := hq_6
      have hr1 : r_4 = 0 := hr1
      have hu1 : u_5 = μ.sM 0 1 := hu1
      subst hr1; subst hu1
      refine lv_if_ne (tgt := 25) hx hb dMd_count_20 (by decide) (fun c_20 => ?_) (fun c_20 => ?_)
      · exact absurd c_20 (by decide)
      · refine lv_iconst (v := 0) hx hb dMd_count_23 (by decide) ?_
        exact gx_iret (u := μ.sM 0 1) E hK hP hD hS ⟨rfl, rfl⟩ dMd_count_24
    · exact (hno ⟨c_2, c_8⟩).elim
set_option maxHeartbeats 4000000 in
set_option maxRecDepth 100000 in
/-- counts -/
theorem qMd_count_ok (l : Launch) (D : va_G) (cI cZ : ClassId) (b : Nat → Nat) (μ : mSt) (x : Int32) (rw : Nat) (hrow : μ.M 1 = nI rw ∧ rw < 4) (hok : ¬ x < 0 ∧ ¬ 9 < x) : gx_Mi l yMd_count (Cond.code yMd_count cMd_count 2 (some .int) :: gW) (gR 3) D gC (mdT cI cZ) (mdW cI cZ b) μ [.ref (b 0), .int x] (fun r u => ∃ j, j ≤ 9 ∧ x = nI j ∧ r = cnM μ rw j ∧ u = μ.sM 0 0) := by
  refine gx_Mi.of (cc := cMd_count) (maxL := 2) (ret := (some .int)) (by decide) rfl (Nat.le_of_ble_eq_true rfl) ?_
  intro p e s m args below meth c ls A E hA hK hP hD hS hl
  obtain ⟨hx, hb, hr, hml, hts, hown, hlocks, hnm⟩ := id E
  have hg : ∀ w ∈ gW, w.before args s = true := fun w h => hts w (List.mem_cons_of_mem _ h)
  have hown : s.vm.findClass "NurseryRowModel" = some m.cls := hown
  have hl : lv_has ls 2 [(0, .ref (b 0)), (1, .int x)] := hl
  refine lv_aload_n hx hb dMd_count_0 rfl (lv_at hl 0 rfl) ?_
  refine lv_iload_n hx hb dMd_count_1 rfl (lv_at hl 1 rfl) ?_
  refine lv_if_lt (tgt := 15) hx hb dMd_count_2 (by decide) (fun c_2 => ?_) (fun c_2 => ?_)
  · exact absurd c_2 hok.1
  · refine lv_iload_n hx hb dMd_count_5 rfl (lv_at hl 1 rfl) ?_
    refine lv_bipush (v := 9) hx hb dMd_count_6 (by decide) ?_
    refine lv_icmp_gt (tgt := 15) hx hb dMd_count_8 (by decide) (fun c_8 => ?_) (fun c_8 => ?_)
    · exact absurd c_8 hok.2
    · refine lv_iconst (v := 1) hx hb dMd_count_11 (by decide) ?_
      refine lv_goto (tgt := 16) hx hb dMd_count_12 (by decide) ?_
      refine lv_iconst (v := 1) hx hb dMd_count_16 (by decide) ?_
      refine gx_calli (C := "NurseryRowModel") (As := [.int 1, .int 1]) (rest := []) E (qMd_goes l D cI cZ b μ 1 1) (gx_cwV hts l_Md_88 k_Md_goes ki_Md_goes ke_Md_goes z_Md n_Md_goes ⟨by decide, by decide⟩) hK hP hD hS hA (va_recv hK hP (ci := 2) (q0 := 0) rfl rfl) hl.1 rfl rfl (Nat.le_of_ble_eq_true rfl) ⟨by decide, by decide⟩ dMd_count_17 (fun r_1 u_2 H locs hq_3 hP hD hS => ?_)
      obtain ⟨hr1, hu1⟩ := hq_3
      have hr1 : r_1 = 1 := hr1
      have hu1 : u_2 = μ.sM 0 0 := hu1
      subst hr1; subst hu1
      refine lv_if_ne (tgt := 25) hx hb dMd_count_20 (by decide) (fun c_20 => ?_) (fun c_20 => ?_)
      · refine lv_iload_n hx hb dMd_count_25 rfl (lv_at hl 1 rfl) ?_
        rcases tsw x 8 (by decide) with ht | ⟨jw, hjw, hxw⟩
        · refine lv_tableOut (tgt := 160) hx hb dMd_count_26 ht (by decide) ?_
          refine lv_aload_n hx hb dMd_count_160 rfl (lv_at hl 0 rfl) ?_
          refine va_get (C := RMd) (T := TMd) (N := 25) (ci := 2) (v := .int (μ.M 1)) hx hb hg inMd hown hK hP 0 rfl rfl 4 (by decide) (hg _ f_Md_19) (fun _ h9 => h9) rfl dMd_count_161 ?_
          refine lv_iconst (v := 1) hx hb dMd_count_164 (by decide) ?_
          refine lv_isub hx hb dMd_count_165 ?_
          exact gx_iret (u := μ.sM 0 0) E hK hP hD hS ⟨9, by decide, cn9 hok.1 hok.2 ht, rfl, rfl⟩ dMd_count_166
        · rcases (show jw = 0 ∨ jw = 1 ∨ jw = 2 ∨ jw = 3 ∨ jw = 4 ∨ jw = 5 ∨ jw = 6 ∨ jw = 7 ∨ jw = 8 by omega) with rfl | rfl | rfl | rfl | rfl | rfl | rfl | rfl | rfl
          · refine gx_top (z := 0) hxw ?_
            refine lv_tableIn (tgt := 76) hx hb dMd_count_26 (by decide) (by decide) rfl (by decide) ?_
            refine lv_aload_n hx hb dMd_count_76 rfl (lv_at hl 0 rfl) ?_
            refine lv_iconst (v := 0) hx hb dMd_count_77 (by decide) ?_
            refine gx_callp (C := "NurseryRowModel") (As := [.int 0]) (rest := []) E (qMd_many l D cI cZ b (μ.sM 0 0) 0) (gx_cwV hts l_Md_126 k_Md_many ki_Md_many ke_Md_many z_Md n_Md_many ⟨by decide, by decide⟩) hK hP hD (va_recv hK hP (ci := 2) (q0 := 0) rfl rfl) hl.1 rfl rfl (Nat.le_of_ble_eq_true rfl) ⟨Nat.zero_le _, Nat.zero_le _⟩ dMd_count_78 ?_
            exact gx_iret (u := μ.sM 0 0) E hK hP hD hS ⟨0, by decide, hxw, rfl, rfl⟩ dMd_count_81
          · refine gx_top (z := 1) hxw ?_
            refine lv_tableIn (tgt := 82) hx hb dMd_count_26 (by decide) (by decide) rfl (by decide) ?_
            refine lv_aload_n hx hb dMd_count_82 rfl (lv_at hl 0 rfl) ?_
            refine lv_aload_n hx hb dMd_count_83 rfl (lv_at hl 0 rfl) ?_
            refine va_get (C := RMd) (T := TMd) (N := 25) (ci := 2) (v := .int (μ.M 1)) hx hb hg inMd hown hK hP 0 rfl rfl 4 (by decide) (hg _ f_Md_19) (fun _ h9 => h9) rfl dMd_count_84 ?_
            refine gx_callp (C := "NurseryRowModel") (As := [.int (μ.M 1)]) (rest := []) E (qMd_many l D cI cZ b (μ.sM 0 0) (μ.M 1)) (gx_cwV hts l_Md_126 k_Md_many ki_Md_many ke_Md_many z_Md n_Md_many ⟨by decide, by decide⟩) hK hP hD (va_recv hK hP (ci := 2) (q0 := 0) rfl rfl) hl.1 rfl rfl (Nat.le_of_ble_eq_true rfl) ⟨Nat.zero_le _, Nat.zero_le _⟩ dMd_count_87 ?_
            exact gx_iret (u := μ.sM 0 0) E hK hP hD hS ⟨1, by decide, hxw, rfl, rfl⟩ dMd_count_90
          · refine gx_top (z := 2) hxw ?_
            refine lv_tableIn (tgt := 91) hx hb dMd_count_26 (by decide) (by decide) rfl (by decide) ?_
            refine lv_aload_n hx hb dMd_count_91 rfl (lv_at hl 0 rfl) ?_
            refine lv_iconst (v := 3) hx hb dMd_count_92 (by decide) ?_
            refine gx_callp (C := "NurseryRowModel") (As := [.int 3]) (rest := []) E (qMd_many l D cI cZ b (μ.sM 0 0) 3) (gx_cwV hts l_Md_126 k_Md_many ki_Md_many ke_Md_many z_Md n_Md_many ⟨by decide, by decide⟩) hK hP hD (va_recv hK hP (ci := 2) (q0 := 0) rfl rfl) hl.1 rfl rfl (Nat.le_of_ble_eq_true rfl) ⟨Nat.zero_le _, Nat.zero_le _⟩ dMd_count_93 ?_
            exact gx_iret (u := μ.sM 0 0) E hK hP hD hS ⟨2, by decide, hxw, rfl, rfl⟩ dMd_count_96
          · refine gx_top (z := 3) hxw ?_
            refine lv_tableIn (tgt := 97) hx hb dMd_count_26 (by decide) (by decide) rfl (by decide) ?_
            refine lv_aload_n hx hb dMd_count_97 rfl (lv_at hl 0 rfl) ?_
            refine va_get (C := RMd) (T := TMd) (N := 25) (ci := 2) (v := .ref (b 3)) hx hb hg inMd hown hK hP 0 rfl rfl 3 (by decide) (hg _ f_Md_16) (fun _ h9 => h9) rfl dMd_count_98 ?_
            refine lv_iconst (v := 0) hx hb dMd_count_101 (by decide) ?_
            refine va_iald hx hb hK hP 3 0 rfl rfl (by unfold vp_in; decide) dMd_count_102 ?_
            refine gx_top (z := (μ.A 2) 0) rfl ?_
            refine lv_aload_n hx hb dMd_count_103 rfl (lv_at hl 0 rfl) ?_
            refine va_get (C := RMd) (T := TMd) (N := 25) (ci := 2) (v := .ref (b 1)) hx hb hg inMd hown hK hP 0 rfl rfl 1 (by decide) (hg _ f_Md_7) (fun _ h9 => h9) rfl dMd_count_104 ?_
            refine lv_iconst (v := 0) hx hb dMd_count_107 (by decide) ?_
            refine va_iald hx hb hK hP 1 0 rfl rfl (by unfold vp_in; decide) dMd_count_108 ?_
            refine gx_top (z := (μ.A 0) 0) rfl ?_
            refine lv_isub hx hb dMd_count_109 ?_
            exact gx_iret (u := μ.sM 0 0) E hK hP hD hS ⟨3, by decide, hxw, rfl, rfl⟩ dMd_count_110
          · refine gx_top (z := 4) hxw ?_
            refine lv_tableIn (tgt := 111) hx hb dMd_count_26 (by decide) (by decide) rfl (by decide) ?_
            refine lv_aload_n hx hb dMd_count_111 rfl (lv_at hl 0 rfl) ?_
            refine va_get (C := RMd) (T := TMd) (N := 25) (ci := 2) (v := .ref (b 3)) hx hb hg inMd hown hK hP 0 rfl rfl 3 (by decide) (hg _ f_Md_16) (fun _ h9 => h9) rfl dMd_count_112 ?_
            refine lv_aload_n hx hb dMd_count_115 rfl (lv_at hl 0 rfl) ?_
            refine va_get (C := RMd) (T := TMd) (N := 25) (ci := 2) (v := .int (μ.M 1)) hx hb hg inMd hown hK hP 0 rfl rfl 4 (by decide) (hg _ f_Md_19) (fun _ h9 => h9) rfl dMd_count_116 ?_
            refine va_iald hx hb hK hP 3 0 rfl rfl (by rw [show (μ.M 1) = nI rw from hrow.1]; exact vp_in_nI hrow.2 (by decide)) dMd_count_119 ?_
            refine gx_top (z := (μ.A 2) rw) (congrArg _ (by rw [show (μ.M 1) = nI rw from hrow.1]; exact nI_clamp (Nat.lt_trans hrow.2 (by decide)))) ?_
            refine lv_aload_n hx hb dMd_count_120 rfl (lv_at hl 0 rfl) ?_
            refine va_get (C := RMd) (T := TMd) (N := 25) (ci := 2) (v := .ref (b 1)) hx hb hg inMd hown hK hP 0 rfl rfl 1 (by decide) (hg _ f_Md_7) (fun _ h9 => h9) rfl dMd_count_121 ?_
            refine lv_aload_n hx hb dMd_count_124 rfl (lv_at hl 0 rfl) ?_
            refine va_get (C := RMd) (T := TMd) (N := 25) (ci := 2) (v := .int (μ.M 1)) hx hb hg inMd hown hK hP 0 rfl rfl 4 (by decide) (hg _ f_Md_19) (fun _ h9 => h9) rfl dMd_count_125 ?_
            refine va_iald hx hb hK hP 1 0 rfl rfl (by rw [show (μ.M 1) = nI rw from hrow.1]; exact vp_in_nI hrow.2 (by decide)) dMd_count_128 ?_
            refine gx_top (z := (μ.A 0) rw) (congrArg _ (by rw [show (μ.M 1) = nI rw from hrow.1]; exact nI_clamp (Nat.lt_trans hrow.2 (by decide)))) ?_
            refine lv_isub hx hb dMd_count_129 ?_
            exact gx_iret (u := μ.sM 0 0) E hK hP hD hS ⟨4, by decide, hxw, rfl, rfl⟩ dMd_count_130
          · refine gx_top (z := 5) hxw ?_
            refine lv_tableIn (tgt := 131) hx hb dMd_count_26 (by decide) (by decide) rfl (by decide) ?_
            refine lv_aload_n hx hb dMd_count_131 rfl (lv_at hl 0 rfl) ?_
            refine va_get (C := RMd) (T := TMd) (N := 25) (ci := 2) (v := .ref (b 3)) hx hb hg inMd hown hK hP 0 rfl rfl 3 (by decide) (hg _ f_Md_16) (fun _ h9 => h9) rfl dMd_count_132 ?_
            refine lv_iconst (v := 3) hx hb dMd_count_135 (by decide) ?_
            refine va_iald hx hb hK hP 3 0 rfl rfl (by unfold vp_in; decide) dMd_count_136 ?_
            refine gx_top (z := (μ.A 2) 3) rfl ?_
            refine lv_aload_n hx hb dMd_count_137 rfl (lv_at hl 0 rfl) ?_
            refine va_get (C := RMd) (T := TMd) (N := 25) (ci := 2) (v := .ref (b 1)) hx hb hg inMd hown hK hP 0 rfl rfl 1 (by decide) (hg _ f_Md_7) (fun _ h9 => h9) rfl dMd_count_138 ?_
            refine lv_iconst (v := 3) hx hb dMd_count_141 (by decide) ?_
            refine va_iald hx hb hK hP 1 0 rfl rfl (by unfold vp_in; decide) dMd_count_142 ?_
            refine gx_top (z := (μ.A 0) 3) rfl ?_
            refine lv_isub hx hb dMd_count_143 ?_
            exact gx_iret (u := μ.sM 0 0) E hK hP hD hS ⟨5, by decide, hxw, rfl, rfl⟩ dMd_count_144
          · refine gx_top (z := 6) hxw ?_
            refine lv_tableIn (tgt := 145) hx hb dMd_count_26 (by decide) (by decide) rfl (by decide) ?_
            refine lv_aload_n hx hb dMd_count_145 rfl (lv_at hl 0 rfl) ?_
            refine va_get (C := RMd) (T := TMd) (N := 25) (ci := 2) (v := .int (μ.M 6)) hx hb hg inMd hown hK hP 0 rfl rfl 22 (by decide) (hg _ f_Md_79) (fun _ h9 => h9) rfl dMd_count_146 ?_
            exact gx_iret (u := μ.sM 0 0) E hK hP hD hS ⟨6, by decide, hxw, rfl, rfl⟩ dMd_count_149
          · refine gx_top (z := 7) hxw ?_
            refine lv_tableIn (tgt := 150) hx hb dMd_count_26 (by decide) (by decide) rfl (by decide) ?_
            refine lv_aload_n hx hb dMd_count_150 rfl (lv_at hl 0 rfl) ?_
            refine va_get (C := RMd) (T := TMd) (N := 25) (ci := 2) (v := .int (μ.M 7)) hx hb hg inMd hown hK hP 0 rfl rfl 23 (by decide) (hg _ f_Md_82) (fun _ h9 => h9) rfl dMd_count_151 ?_
            exact gx_iret (u := μ.sM 0 0) E hK hP hD hS ⟨7, by decide, hxw, rfl, rfl⟩ dMd_count_154
          · refine gx_top (z := 8) hxw ?_
            refine lv_tableIn (tgt := 155) hx hb dMd_count_26 (by decide) (by decide) rfl (by decide) ?_
            refine lv_aload_n hx hb dMd_count_155 rfl (lv_at hl 0 rfl) ?_
            refine va_get (C := RMd) (T := TMd) (N := 25) (ci := 2) (v := .int (μ.M 8)) hx hb hg inMd hown hK hP 0 rfl rfl 24 (by decide) (hg _ f_Md_85) (fun _ h9 => h9) rfl dMd_count_156 ?_
            exact gx_iret (u := μ.sM 0 0) E hK hP hD hS ⟨8, by decide, hxw, rfl, rfl⟩ dMd_count_159
      · exact absurd c_20 (by decide)
set_option maxHeartbeats 4000000 in
set_option maxRecDepth 100000 in
/-- the next (it throws) -/
theorem qMd_next_no (l : Launch) (D : va_G) (cI cZ : ClassId) (b : Nat → Nat) (μ : mSt) (x ko : Int32) (ho : ¬ x = 0 → objR μ x ko) (hno : ¬ (x = 0 ∨ ¬ ko < 0)) : gx_Mi l yMd_next (Cond.code yMd_next cMd_next 5 (some .int) :: gW) (gR 3) D gC (mdT cI cZ) (mdW cI cZ b) μ [.ref (b 0), .int x] (fun r u => r = 0 ∧ u = μ.sM 0 1) := by
  refine gx_Mi.of (cc := cMd_next) (maxL := 5) (ret := (some .int)) (by decide) rfl (Nat.le_of_ble_eq_true rfl) ?_
  intro p e s m args below meth c ls A E hA hK hP hD hS hl
  obtain ⟨hx, hb, hr, hml, hts, hown, hlocks, hnm⟩ := id E
  have hg : ∀ w ∈ gW, w.before args s = true := fun w h => hts w (List.mem_cons_of_mem _ h)
  have hown : s.vm.findClass "NurseryRowModel" = some m.cls := hown
  have hl : lv_has ls 5 [(0, .ref (b 0)), (1, .int x)] := hl
  refine lv_aload_n hx hb dMd_next_0 rfl (lv_at hl 0 rfl) ?_
  refine lv_iload_n hx hb dMd_next_1 rfl (lv_at hl 1 rfl) ?_
  refine lv_if_eq (tgt := 13) hx hb dMd_next_2 (by decide) (fun c_2 => ?_) (fun c_2 => ?_)
  · exact (hno (Or.inl c_2)).elim
  · refine lv_aload_n hx hb dMd_next_5 rfl (lv_at hl 0 rfl) ?_
    refine lv_iload_n hx hb dMd_next_6 rfl (lv_at hl 1 rfl) ?_
    refine gx_callp (C := "NurseryRowModel") (As := [.int x]) (rest := [.ref (b 0)]) E (qMd_object l D cI cZ b μ x ko (ho c_2)) (gx_cwV hts l_Md_96 k_Md_object ki_Md_object ke_Md_object z_Md n_Md_object ⟨by decide, by decide⟩) hK hP hD (va_recv hK hP (ci := 2) (q0 := 0) rfl rfl) hl.1 rfl rfl (Nat.le_of_ble_eq_true rfl) ⟨Nat.zero_le _, Nat.zero_le _⟩ dMd_next_7 ?_
    refine lv_if_lt (tgt := 17) hx hb dMd_next_10 (by decide) (fun c_10 => ?_) (fun c_10 => ?_)
    · refine lv_iconst (v := 0) hx hb dMd_next_17 (by decide) ?_
      refine lv_iconst (v := 1) hx hb dMd_next_18 (by decide) ?_
      refine gx_calli (C := "NurseryRowModel") (As := [.int 0, .int 1]) (rest := []) E (qMd_goes l D cI cZ b μ 0 1) (gx_cwV hts l_Md_88 k_Md_goes ki_Md_goes ke_Md_goes z_Md n_Md_goes ⟨by decide, by decide⟩) hK hP hD hS hA (va_recv hK hP (ci := 2) (q0 := 0) rfl rfl) hl.1 rfl rfl (Nat.le_of_ble_eq_true rfl) ⟨by decide, by decide⟩ dMd_next_19 (fun r_1 u_2 H locs hq_3 hP hD hS => ?_)
      obtain ⟨hr1, hu1⟩ := hq_3
      have hr1 : r_1 = 0 := hr1
      have hu1 : u_2 = μ.sM 0 1 := hu1
      subst hr1; subst hu1
      refine lv_if_ne (tgt := 27) hx hb dMd_next_22 (by decide) (fun c_22 => ?_) (fun c_22 => ?_)
      · exact absurd c_22 (by decide)
      · refine lv_iconst (v := 0) hx hb dMd_next_25 (by decide) ?_
        exact gx_iret (u := μ.sM 0 1) E hK hP hD hS ⟨rfl, rfl⟩ dMd_next_26
    · exact (hno (Or.inr c_10)).elim
set_option maxHeartbeats 4000000 in
set_option maxRecDepth 100000 in
/-- the next -/
theorem qMd_next_ok (l : Launch) (D : va_G) (cI cZ : ClassId) (b : Nat → Nat) (μ : mSt) (x ko : Int32) (ho : ¬ x = 0 → objR μ x ko) (hok : x = 0 ∨ ¬ ko < 0) : gx_Mi l yMd_next (Cond.code yMd_next cMd_next 5 (some .int) :: gW) (gR 3) D gC (mdT cI cZ) (mdW cI cZ b) μ [.ref (b 0), .int x] (fun r u => r = nxM μ.A x 3600 ∧ u = μ.sM 0 0) := by
  refine gx_Mi.of (cc := cMd_next) (maxL := 5) (ret := (some .int)) (by decide) rfl (Nat.le_of_ble_eq_true rfl) ?_
  intro p e s m args below meth c ls A E hA hK hP hD hS hl
  obtain ⟨hx, hb, hr, hml, hts, hown, hlocks, hnm⟩ := id E
  have hg : ∀ w ∈ gW, w.before args s = true := fun w h => hts w (List.mem_cons_of_mem _ h)
  have hown : s.vm.findClass "NurseryRowModel" = some m.cls := hown
  have hl : lv_has ls 5 [(0, .ref (b 0)), (1, .int x)] := hl
  refine lv_aload_n hx hb dMd_next_0 rfl (lv_at hl 0 rfl) ?_
  refine lv_iload_n hx hb dMd_next_1 rfl (lv_at hl 1 rfl) ?_
  refine lv_if_eq (tgt := 13) hx hb dMd_next_2 (by decide) (fun c_2 => ?_) (fun c_2 => ?_)
  · refine lv_iconst (v := 1) hx hb dMd_next_13 (by decide) ?_
    refine lv_goto (tgt := 18) hx hb dMd_next_14 (by decide) ?_
    refine lv_iconst (v := 1) hx hb dMd_next_18 (by decide) ?_
    refine gx_calli (C := "NurseryRowModel") (As := [.int 1, .int 1]) (rest := []) E (qMd_goes l D cI cZ b μ 1 1) (gx_cwV hts l_Md_88 k_Md_goes ki_Md_goes ke_Md_goes z_Md n_Md_goes ⟨by decide, by decide⟩) hK hP hD hS hA (va_recv hK hP (ci := 2) (q0 := 0) rfl rfl) hl.1 rfl rfl (Nat.le_of_ble_eq_true rfl) ⟨by decide, by decide⟩ dMd_next_19 (fun r_1 u_2 H locs hq_3 hP hD hS => ?_)
    obtain ⟨hr1, hu1⟩ := hq_3
    have hr1 : r_1 = 1 := hr1
    have hu1 : u_2 = μ.sM 0 0 := hu1
    subst hr1; subst hu1
    refine lv_if_ne (tgt := 27) hx hb dMd_next_22 (by decide) (fun c_22 => ?_) (fun c_22 => ?_)
    · refine lv_iconst (v := 0) hx hb dMd_next_27 (by decide) ?_
      refine lv_istore_n (lv' := [(2, .int 0), (0, .ref (b 0)), (1, .int x)]) hx hb dMd_next_28 rfl hl (by decide) rfl (fun ls hl => ?_)
      refine lv_iconst (v := 0) hx hb dMd_next_29 (by decide) ?_
      refine lv_istore_n (lv' := [(3, .int 0), (2, .int 0), (0, .ref (b 0)), (1, .int x)]) hx hb dMd_next_30 rfl hl (by decide) rfl (fun ls hl => ?_)
      have key : ∀ (n : Nat) (t : Nat) (H : Heap) (locs : List Loc) (ls : Array Slot), 3600 - t < n → (t ≤ 3600) → va_P D gC (mdW cI cZ b (μ.sM 0 0)) H → va_D A (mdW cI cZ b (μ.sM 0 0)) → va_S A s.heap H locs → lv_has ls 5 [(0, .ref (b 0)), (1, .int x), (2, .int (nxM μ.A x t)), (3, .int (nI t))] → W p l e (gR 3) s m args below meth c H locs 0 0 (MQ below (va_Qi (fun r u => r = nxM μ.A x 3600 ∧ u = μ.sM 0 0) (gx_B D gC (mdT cI cZ) (mdW cI cZ b) A) A) args s 0 0 A) (F0 m 31 ls []) := by
        intro n
        induction n with
        | zero => intro t H locs ls hm; exact absurd hm (Nat.not_lt_zero _)
        | succ n ih =>
          intro t H locs ls hm ht hP hD hS hl
          refine lv_iload_n hx hb dMd_next_31 rfl (lv_at hl 3 rfl) ?_
          refine lv_sipush (v := 3600) hx hb dMd_next_32 (by decide) ?_
          refine lv_icmp_ge (tgt := 100) hx hb dMd_next_35 (by decide) (fun c_35 => ?_) (fun c_35 => ?_)
          · refine lv_iload_n hx hb dMd_next_100 rfl (lv_at hl 2 rfl) ?_
            exact gx_iret (u := μ.sM 0 0) E hK hP hD hS ⟨by rw [show t = 3600 from Nat.le_antisymm ht (Nat.not_lt.mp fun z => nI_ge (b := 3600) z (by decide) c_35)], rfl⟩ dMd_next_101
          · have hlt : t < 3600 := Nat.not_le.mp fun z => c_35 (nI_le (a := 3600) z (by omega))
            refine lv_aload_n hx hb dMd_next_38 rfl (lv_at hl 0 rfl) ?_
            refine va_get (C := RMd) (T := TMd) (N := 25) (ci := 2) (v := .ref (b 4)) hx hb hg inMd hown hK hP 0 rfl rfl 6 (by decide) (hg _ f_Md_26) (fun _ h9 => h9) rfl dMd_next_39 ?_
            refine lv_iload_n hx hb dMd_next_42 rfl (lv_at hl 3 rfl) ?_
            refine va_zald hx hb hK hP 4 1 rfl rfl (vp_in_nI (show t < 3600 from hlt) (by decide)) dMd_next_43 ?_
            refine gx_top (z := ((μ.sM 0 0).A 3) t) (congrArg _ (nI_clamp (Nat.lt_trans (show t < 3600 from hlt) (by decide)))) ?_
            refine lv_if_eq (tgt := 61) hx hb dMd_next_44 (by decide) (fun c_44 => ?_) (fun c_44 => ?_)
            · refine lv_iconst (v := 0) hx hb dMd_next_61 (by decide) ?_
              refine lv_istore (lv' := [(4, .int 0), (0, .ref (b 0)), (1, .int x), (2, .int (nxM μ.A x t)), (3, .int (nI t))]) hx hb dMd_next_62 hl (by decide) rfl (fun ls hl => ?_)
              refine lv_iload hx hb dMd_next_64 (lv_at hl 0 rfl) ?_
              refine lv_if_eq (tgt := 92) hx hb dMd_next_66 (by decide) (fun c_66 => ?_) (fun c_66 => ?_)
              · refine lv_iload_n hx hb dMd_next_92 rfl (lv_at hl 3 rfl) ?_
                refine gx_top (z := nxM μ.A x (t + 1)) (by simp only [nxM]; rw [if_neg (fun z => z.1.1 c_44)]) ?_
                refine lv_istore_n (lv' := [(2, .int (nxM μ.A x (t + 1))), (4, .int 0), (0, .ref (b 0)), (1, .int x), (3, .int (nI t))]) hx hb dMd_next_93 rfl hl (by decide) rfl (fun ls hl => ?_)
                refine lv_iinc (v := nI (t + 1)) (lv' := [(3, .int (nI (t + 1))), (2, .int (nxM μ.A x (t + 1))), (4, .int 0), (0, .ref (b 0)), (1, .int x)]) hx hb dMd_next_94 hl (k := 4) rfl (by rw [← nI_1]; rfl) (by decide) rfl (fun ls hl => ?_)
                refine lv_goto (tgt := 31) hx hb dMd_next_97 (by decide) ?_
                exact ih (t + 1) H locs ls (by omega) (by omega) hP hD hS (lv_sub hl [3, 4, 1, 0] rfl)
              · exact absurd c_66 (by decide)
            · refine lv_aload_n hx hb dMd_next_47 rfl (lv_at hl 0 rfl) ?_
              refine va_get (C := RMd) (T := TMd) (N := 25) (ci := 2) (v := .ref (b 6)) hx hb hg inMd hown hK hP 0 rfl rfl 8 (by decide) (hg _ f_Md_33) (fun _ h9 => h9) rfl dMd_next_48 ?_
              refine lv_iload_n hx hb dMd_next_51 rfl (lv_at hl 3 rfl) ?_
              refine va_iald hx hb hK hP 6 0 rfl rfl (vp_in_nI (show t < 3600 from hlt) (by decide)) dMd_next_52 ?_
              refine gx_top (z := ((μ.sM 0 0).A 5) t) (congrArg _ (nI_clamp (Nat.lt_trans (show t < 3600 from hlt) (by decide)))) ?_
              refine lv_iload_n hx hb dMd_next_53 rfl (lv_at hl 1 rfl) ?_
              refine lv_icmp_le (tgt := 61) hx hb dMd_next_54 (by decide) (fun c_54 => ?_) (fun c_54 => ?_)
              · refine lv_iconst (v := 0) hx hb dMd_next_61 (by decide) ?_
                refine lv_istore (lv' := [(4, .int 0), (0, .ref (b 0)), (1, .int x), (2, .int (nxM μ.A x t)), (3, .int (nI t))]) hx hb dMd_next_62 hl (by decide) rfl (fun ls hl => ?_)
                refine lv_iload hx hb dMd_next_64 (lv_at hl 0 rfl) ?_
                refine lv_if_eq (tgt := 92) hx hb dMd_next_66 (by decide) (fun c_66 => ?_) (fun c_66 => ?_)
                · refine lv_iload_n hx hb dMd_next_92 rfl (lv_at hl 3 rfl) ?_
                  refine gx_top (z := nxM μ.A x (t + 1)) (by simp only [nxM]; rw [if_neg (fun z => absurd z.1.2 (Int32.not_lt.mpr c_54))]) ?_
                  refine lv_istore_n (lv' := [(2, .int (nxM μ.A x (t + 1))), (4, .int 0), (0, .ref (b 0)), (1, .int x), (3, .int (nI t))]) hx hb dMd_next_93 rfl hl (by decide) rfl (fun ls hl => ?_)
                  refine lv_iinc (v := nI (t + 1)) (lv' := [(3, .int (nI (t + 1))), (2, .int (nxM μ.A x (t + 1))), (4, .int 0), (0, .ref (b 0)), (1, .int x)]) hx hb dMd_next_94 hl (k := 4) rfl (by rw [← nI_1]; rfl) (by decide) rfl (fun ls hl => ?_)
                  refine lv_goto (tgt := 31) hx hb dMd_next_97 (by decide) ?_
                  exact ih (t + 1) H locs ls (by omega) (by omega) hP hD hS (lv_sub hl [3, 4, 1, 0] rfl)
                · exact absurd c_66 (by decide)
              · refine lv_iconst (v := 1) hx hb dMd_next_57 (by decide) ?_
                refine lv_goto (tgt := 62) hx hb dMd_next_58 (by decide) ?_
                refine lv_istore (lv' := [(4, .int 1), (0, .ref (b 0)), (1, .int x), (2, .int (nxM μ.A x t)), (3, .int (nI t))]) hx hb dMd_next_62 hl (by decide) rfl (fun ls hl => ?_)
                refine lv_iload hx hb dMd_next_64 (lv_at hl 0 rfl) ?_
                refine lv_if_eq (tgt := 92) hx hb dMd_next_66 (by decide) (fun c_66 => ?_) (fun c_66 => ?_)
                · exact absurd c_66 (by decide)
                · refine lv_iload_n hx hb dMd_next_69 rfl (lv_at hl 3 rfl) ?_
                  refine lv_if_eq (tgt := 83) hx hb dMd_next_70 (by decide) (fun c_70 => ?_) (fun c_70 => ?_)
                  · refine lv_aload_n hx hb dMd_next_83 rfl (lv_at hl 1 rfl) ?_
                    refine va_get (C := RMd) (T := TMd) (N := 25) (ci := 2) (v := .ref (b 6)) hx hb hg inMd hown hK hP 0 rfl rfl 8 (by decide) (hg _ f_Md_33) (fun _ h9 => h9) rfl dMd_next_84 ?_
                    refine lv_iload_n hx hb dMd_next_87 rfl (lv_at hl 4 rfl) ?_
                    refine va_iald hx hb hK hP 6 0 rfl rfl (vp_in_nI (show t < 3600 from hlt) (by decide)) dMd_next_88 ?_
                    refine gx_top (z := ((μ.sM 0 0).A 5) t) (congrArg _ (nI_clamp (Nat.lt_trans (show t < 3600 from hlt) (by decide)))) ?_
                    refine lv_goto (tgt := 93) hx hb dMd_next_89 (by decide) ?_
                    refine gx_top (z := nxM μ.A x (t + 1)) (by simp only [nxM]; rw [if_pos ⟨⟨c_44, Int32.not_le.mp c_54⟩, Or.inl c_70⟩]; rfl) ?_
                    refine lv_istore_n (lv' := [(2, .int (nxM μ.A x (t + 1))), (4, .int 1), (0, .ref (b 0)), (1, .int x), (3, .int (nI t))]) hx hb dMd_next_93 rfl hl (by decide) rfl (fun ls hl => ?_)
                    refine lv_iinc (v := nI (t + 1)) (lv' := [(3, .int (nI (t + 1))), (2, .int (nxM μ.A x (t + 1))), (4, .int 1), (0, .ref (b 0)), (1, .int x)]) hx hb dMd_next_94 hl (k := 4) rfl (by rw [← nI_1]; rfl) (by decide) rfl (fun ls hl => ?_)
                    refine lv_goto (tgt := 31) hx hb dMd_next_97 (by decide) ?_
                    exact ih (t + 1) H locs ls (by omega) (by omega) hP hD hS (lv_sub hl [3, 4, 1, 0] rfl)
                  · refine lv_aload_n hx hb dMd_next_73 rfl (lv_at hl 1 rfl) ?_
                    refine va_get (C := RMd) (T := TMd) (N := 25) (ci := 2) (v := .ref (b 6)) hx hb hg inMd hown hK hP 0 rfl rfl 8 (by decide) (hg _ f_Md_33) (fun _ h9 => h9) rfl dMd_next_74 ?_
                    refine lv_iload_n hx hb dMd_next_77 rfl (lv_at hl 4 rfl) ?_
                    refine va_iald hx hb hK hP 6 0 rfl rfl (vp_in_nI (show t < 3600 from hlt) (by decide)) dMd_next_78 ?_
                    refine gx_top (z := ((μ.sM 0 0).A 5) t) (congrArg _ (nI_clamp (Nat.lt_trans (show t < 3600 from hlt) (by decide)))) ?_
                    refine lv_iload_n hx hb dMd_next_79 rfl (lv_at hl 3 rfl) ?_
                    refine lv_icmp_ge (tgt := 92) hx hb dMd_next_80 (by decide) (fun c_80 => ?_) (fun c_80 => ?_)
                    · refine lv_iload_n hx hb dMd_next_92 rfl (lv_at hl 3 rfl) ?_
                      refine gx_top (z := nxM μ.A x (t + 1)) (by simp only [nxM]; rw [if_neg (fun z => z.2.elim c_70 (fun w => absurd w (Int32.not_lt.mpr c_80)))]) ?_
                      refine lv_istore_n (lv' := [(2, .int (nxM μ.A x (t + 1))), (4, .int 1), (0, .ref (b 0)), (1, .int x), (3, .int (nI t))]) hx hb dMd_next_93 rfl hl (by decide) rfl (fun ls hl => ?_)
                      refine lv_iinc (v := nI (t + 1)) (lv' := [(3, .int (nI (t + 1))), (2, .int (nxM μ.A x (t + 1))), (4, .int 1), (0, .ref (b 0)), (1, .int x)]) hx hb dMd_next_94 hl (k := 4) rfl (by rw [← nI_1]; rfl) (by decide) rfl (fun ls hl => ?_)
                      refine lv_goto (tgt := 31) hx hb dMd_next_97 (by decide) ?_
                      exact ih (t + 1) H locs ls (by omega) (by omega) hP hD hS (lv_sub hl [3, 4, 1, 0] rfl)
                    · refine lv_aload_n hx hb dMd_next_83 rfl (lv_at hl 1 rfl) ?_
                      refine va_get (C := RMd) (T := TMd) (N := 25) (ci := 2) (v := .ref (b 6)) hx hb hg inMd hown hK hP 0 rfl rfl 8 (by decide) (hg _ f_Md_33) (fun _ h9 => h9) rfl dMd_next_84 ?_
                      refine lv_iload_n hx hb dMd_next_87 rfl (lv_at hl 4 rfl) ?_
                      refine va_iald hx hb hK hP 6 0 rfl rfl (vp_in_nI (show t < 3600 from hlt) (by decide)) dMd_next_88 ?_
                      refine gx_top (z := ((μ.sM 0 0).A 5) t) (congrArg _ (nI_clamp (Nat.lt_trans (show t < 3600 from hlt) (by decide)))) ?_
                      refine lv_goto (tgt := 93) hx hb dMd_next_89 (by decide) ?_
                      refine gx_top (z := nxM μ.A x (t + 1)) (by simp only [nxM]; rw [if_pos ⟨⟨c_44, Int32.not_le.mp c_54⟩, Or.inr (Int32.not_le.mp c_80)⟩]; rfl) ?_
                      refine lv_istore_n (lv' := [(2, .int (nxM μ.A x (t + 1))), (4, .int 1), (0, .ref (b 0)), (1, .int x), (3, .int (nI t))]) hx hb dMd_next_93 rfl hl (by decide) rfl (fun ls hl => ?_)
                      refine lv_iinc (v := nI (t + 1)) (lv' := [(3, .int (nI (t + 1))), (2, .int (nxM μ.A x (t + 1))), (4, .int 1), (0, .ref (b 0)), (1, .int x)]) hx hb dMd_next_94 hl (k := 4) rfl (by rw [← nI_1]; rfl) (by decide) rfl (fun ls hl => ?_)
                      refine lv_goto (tgt := 31) hx hb dMd_next_97 (by decide) ?_
                      exact ih (t + 1) H locs ls (by omega) (by omega) hP hD hS (lv_sub hl [3, 4, 1, 0] rfl)
      exact key ((3600 - 0) + 1) 0 _ _ ls (Nat.lt_succ_self _) (Nat.zero_le _) hP hD hS (lv_sub hl [2, 3, 1, 0] rfl)
    · exact absurd c_22 (by decide)
  · refine lv_aload_n hx hb dMd_next_5 rfl (lv_at hl 0 rfl) ?_
    refine lv_iload_n hx hb dMd_next_6 rfl (lv_at hl 1 rfl) ?_
    refine gx_callp (C := "NurseryRowModel") (As := [.int x]) (rest := [.ref (b 0)]) E (qMd_object l D cI cZ b μ x ko (ho c_2)) (gx_cwV hts l_Md_96 k_Md_object ki_Md_object ke_Md_object z_Md n_Md_object ⟨by decide, by decide⟩) hK hP hD (va_recv hK hP (ci := 2) (q0 := 0) rfl rfl) hl.1 rfl rfl (Nat.le_of_ble_eq_true rfl) ⟨Nat.zero_le _, Nat.zero_le _⟩ dMd_next_7 ?_
    refine lv_if_lt (tgt := 17) hx hb dMd_next_10 (by decide) (fun c_10 => ?_) (fun c_10 => ?_)
    · exact absurd c_10 (hok.resolve_left c_2)
    · refine lv_iconst (v := 1) hx hb dMd_next_13 (by decide) ?_
      refine lv_goto (tgt := 18) hx hb dMd_next_14 (by decide) ?_
      refine lv_iconst (v := 1) hx hb dMd_next_18 (by decide) ?_
      refine gx_calli (C := "NurseryRowModel") (As := [.int 1, .int 1]) (rest := []) E (qMd_goes l D cI cZ b μ 1 1) (gx_cwV hts l_Md_88 k_Md_goes ki_Md_goes ke_Md_goes z_Md n_Md_goes ⟨by decide, by decide⟩) hK hP hD hS hA (va_recv hK hP (ci := 2) (q0 := 0) rfl rfl) hl.1 rfl rfl (Nat.le_of_ble_eq_true rfl) ⟨by decide, by decide⟩ dMd_next_19 (fun r_4 u_5 H locs hq_6 hP hD hS => ?_)
      obtain ⟨hr1, hu1⟩ := hq_6
      have hr1 : r_4 = 1 := hr1
      have hu1 : u_5 = μ.sM 0 0 := hu1
      subst hr1; subst hu1
      refine lv_if_ne (tgt := 27) hx hb dMd_next_22 (by decide) (fun c_22 => ?_) (fun c_22 => ?_)
      · refine lv_iconst (v := 0) hx hb dMd_next_27 (by decide) ?_
        refine lv_istore_n (lv' := [(2, .int 0), (0, .ref (b 0)), (1, .int x)]) hx hb dMd_next_28 rfl hl (by decide) rfl (fun ls hl => ?_)
        refine lv_iconst (v := 0) hx hb dMd_next_29 (by decide) ?_
        refine lv_istore_n (lv' := [(3, .int 0), (2, .int 0), (0, .ref (b 0)), (1, .int x)]) hx hb dMd_next_30 rfl hl (by decide) rfl (fun ls hl => ?_)
        have key : ∀ (n : Nat) (t : Nat) (H : Heap) (locs : List Loc) (ls : Array Slot), 3600 - t < n → (t ≤ 3600) → va_P D gC (mdW cI cZ b (μ.sM 0 0)) H → va_D A (mdW cI cZ b (μ.sM 0 0)) → va_S A s.heap H locs → lv_has ls 5 [(0, .ref (b 0)), (1, .int x), (2, .int (nxM μ.A x t)), (3, .int (nI t))] → W p l e (gR 3) s m args below meth c H locs 0 0 (MQ below (va_Qi (fun r u => r = nxM μ.A x 3600 ∧ u = μ.sM 0 0) (gx_B D gC (mdT cI cZ) (mdW cI cZ b) A) A) args s 0 0 A) (F0 m 31 ls []) := by
          intro n
          induction n with
          | zero => intro t H locs ls hm; exact absurd hm (Nat.not_lt_zero _)
          | succ n ih =>
            intro t H locs ls hm ht hP hD hS hl
            refine lv_iload_n hx hb dMd_next_31 rfl (lv_at hl 3 rfl) ?_
            refine lv_sipush (v := 3600) hx hb dMd_next_32 (by decide) ?_
            refine lv_icmp_ge (tgt := 100) hx hb dMd_next_35 (by decide) (fun c_35 => ?_) (fun c_35 => ?_)
            · refine lv_iload_n hx hb dMd_next_100 rfl (lv_at hl 2 rfl) ?_
              exact gx_iret (u := μ.sM 0 0) E hK hP hD hS ⟨by rw [show t = 3600 from Nat.le_antisymm ht (Nat.not_lt.mp fun z => nI_ge (b := 3600) z (by decide) c_35)], rfl⟩ dMd_next_101
            · have hlt : t < 3600 := Nat.not_le.mp fun z => c_35 (nI_le (a := 3600) z (by omega))
              refine lv_aload_n hx hb dMd_next_38 rfl (lv_at hl 0 rfl) ?_
              refine va_get (C := RMd) (T := TMd) (N := 25) (ci := 2) (v := .ref (b 4)) hx hb hg inMd hown hK hP 0 rfl rfl 6 (by decide) (hg _ f_Md_26) (fun _ h9 => h9) rfl dMd_next_39 ?_
              refine lv_iload_n hx hb dMd_next_42 rfl (lv_at hl 3 rfl) ?_
              refine va_zald hx hb hK hP 4 1 rfl rfl (vp_in_nI (show t < 3600 from hlt) (by decide)) dMd_next_43 ?_
              refine gx_top (z := ((μ.sM 0 0).A 3) t) (congrArg _ (nI_clamp (Nat.lt_trans (show t < 3600 from hlt) (by decide)))) ?_
              refine lv_if_eq (tgt := 61) hx hb dMd_next_44 (by decide) (fun c_44 => ?_) (fun c_44 => ?_)
              · refine lv_iconst (v := 0) hx hb dMd_next_61 (by decide) ?_
                refine lv_istore (lv' := [(4, .int 0), (0, .ref (b 0)), (1, .int x), (2, .int (nxM μ.A x t)), (3, .int (nI t))]) hx hb dMd_next_62 hl (by decide) rfl (fun ls hl => ?_)
                refine lv_iload hx hb dMd_next_64 (lv_at hl 0 rfl) ?_
                refine lv_if_eq (tgt := 92) hx hb dMd_next_66 (by decide) (fun c_66 => ?_) (fun c_66 => ?_)
                · refine lv_iload_n hx hb dMd_next_92 rfl (lv_at hl 3 rfl) ?_
                  refine gx_top (z := nxM μ.A x (t + 1)) (by simp only [nxM]; rw [if_neg (fun z => z.1.1 c_44)]) ?_
                  refine lv_istore_n (lv' := [(2, .int (nxM μ.A x (t + 1))), (4, .int 0), (0, .ref (b 0)), (1, .int x), (3, .int (nI t))]) hx hb dMd_next_93 rfl hl (by decide) rfl (fun ls hl => ?_)
                  refine lv_iinc (v := nI (t + 1)) (lv' := [(3, .int (nI (t + 1))), (2, .int (nxM μ.A x (t + 1))), (4, .int 0), (0, .ref (b 0)), (1, .int x)]) hx hb dMd_next_94 hl (k := 4) rfl (by rw [← nI_1]; rfl) (by decide) rfl (fun ls hl => ?_)
                  refine lv_goto (tgt := 31) hx hb dMd_next_97 (by decide) ?_
                  exact ih (t + 1) H locs ls (by omega) (by omega) hP hD hS (lv_sub hl [3, 4, 1, 0] rfl)
                · exact absurd c_66 (by decide)
              · refine lv_aload_n hx hb dMd_next_47 rfl (lv_at hl 0 rfl) ?_
                refine va_get (C := RMd) (T := TMd) (N := 25) (ci := 2) (v := .ref (b 6)) hx hb hg inMd hown hK hP 0 rfl rfl 8 (by decide) (hg _ f_Md_33) (fun _ h9 => h9) rfl dMd_next_48 ?_
                refine lv_iload_n hx hb dMd_next_51 rfl (lv_at hl 3 rfl) ?_
                refine va_iald hx hb hK hP 6 0 rfl rfl (vp_in_nI (show t < 3600 from hlt) (by decide)) dMd_next_52 ?_
                refine gx_top (z := ((μ.sM 0 0).A 5) t) (congrArg _ (nI_clamp (Nat.lt_trans (show t < 3600 from hlt) (by decide)))) ?_
                refine lv_iload_n hx hb dMd_next_53 rfl (lv_at hl 1 rfl) ?_
                refine lv_icmp_le (tgt := 61) hx hb dMd_next_54 (by decide) (fun c_54 => ?_) (fun c_54 => ?_)
                · refine lv_iconst (v := 0) hx hb dMd_next_61 (by decide) ?_
                  refine lv_istore (lv' := [(4, .int 0), (0, .ref (b 0)), (1, .int x), (2, .int (nxM μ.A x t)), (3, .int (nI t))]) hx hb dMd_next_62 hl (by decide) rfl (fun ls hl => ?_)
                  refine lv_iload hx hb dMd_next_64 (lv_at hl 0 rfl) ?_
                  refine lv_if_eq (tgt := 92) hx hb dMd_next_66 (by decide) (fun c_66 => ?_) (fun c_66 => ?_)
                  · refine lv_iload_n hx hb dMd_next_92 rfl (lv_at hl 3 rfl) ?_
                    refine gx_top (z := nxM μ.A x (t + 1)) (by simp only [nxM]; rw [if_neg (fun z => absurd z.1.2 (Int32.not_lt.mpr c_54))]) ?_
                    refine lv_istore_n (lv' := [(2, .int (nxM μ.A x (t + 1))), (4, .int 0), (0, .ref (b 0)), (1, .int x), (3, .int (nI t))]) hx hb dMd_next_93 rfl hl (by decide) rfl (fun ls hl => ?_)
                    refine lv_iinc (v := nI (t + 1)) (lv' := [(3, .int (nI (t + 1))), (2, .int (nxM μ.A x (t + 1))), (4, .int 0), (0, .ref (b 0)), (1, .int x)]) hx hb dMd_next_94 hl (k := 4) rfl (by rw [← nI_1]; rfl) (by decide) rfl (fun ls hl => ?_)
                    refine lv_goto (tgt := 31) hx hb dMd_next_97 (by decide) ?_
                    exact ih (t + 1) H locs ls (by omega) (by omega) hP hD hS (lv_sub hl [3, 4, 1, 0] rfl)
                  · exact absurd c_66 (by decide)
                · refine lv_iconst (v := 1) hx hb dMd_next_57 (by decide) ?_
                  refine lv_goto (tgt := 62) hx hb dMd_next_58 (by decide) ?_
                  refine lv_istore (lv' := [(4, .int 1), (0, .ref (b 0)), (1, .int x), (2, .int (nxM μ.A x t)), (3, .int (nI t))]) hx hb dMd_next_62 hl (by decide) rfl (fun ls hl => ?_)
                  refine lv_iload hx hb dMd_next_64 (lv_at hl 0 rfl) ?_
                  refine lv_if_eq (tgt := 92) hx hb dMd_next_66 (by decide) (fun c_66 => ?_) (fun c_66 => ?_)
                  · exact absurd c_66 (by decide)
                  · refine lv_iload_n hx hb dMd_next_69 rfl (lv_at hl 3 rfl) ?_
                    refine lv_if_eq (tgt := 83) hx hb dMd_next_70 (by decide) (fun c_70 => ?_) (fun c_70 => ?_)
                    · refine lv_aload_n hx hb dMd_next_83 rfl (lv_at hl 1 rfl) ?_
                      refine va_get (C := RMd) (T := TMd) (N := 25) (ci := 2) (v := .ref (b 6)) hx hb hg inMd hown hK hP 0 rfl rfl 8 (by decide) (hg _ f_Md_33) (fun _ h9 => h9) rfl dMd_next_84 ?_
                      refine lv_iload_n hx hb dMd_next_87 rfl (lv_at hl 4 rfl) ?_
                      refine va_iald hx hb hK hP 6 0 rfl rfl (vp_in_nI (show t < 3600 from hlt) (by decide)) dMd_next_88 ?_
                      refine gx_top (z := ((μ.sM 0 0).A 5) t) (congrArg _ (nI_clamp (Nat.lt_trans (show t < 3600 from hlt) (by decide)))) ?_
                      refine lv_goto (tgt := 93) hx hb dMd_next_89 (by decide) ?_
                      refine gx_top (z := nxM μ.A x (t + 1)) (by simp only [nxM]; rw [if_pos ⟨⟨c_44, Int32.not_le.mp c_54⟩, Or.inl c_70⟩]; rfl) ?_
                      refine lv_istore_n (lv' := [(2, .int (nxM μ.A x (t + 1))), (4, .int 1), (0, .ref (b 0)), (1, .int x), (3, .int (nI t))]) hx hb dMd_next_93 rfl hl (by decide) rfl (fun ls hl => ?_)
                      refine lv_iinc (v := nI (t + 1)) (lv' := [(3, .int (nI (t + 1))), (2, .int (nxM μ.A x (t + 1))), (4, .int 1), (0, .ref (b 0)), (1, .int x)]) hx hb dMd_next_94 hl (k := 4) rfl (by rw [← nI_1]; rfl) (by decide) rfl (fun ls hl => ?_)
                      refine lv_goto (tgt := 31) hx hb dMd_next_97 (by decide) ?_
                      exact ih (t + 1) H locs ls (by omega) (by omega) hP hD hS (lv_sub hl [3, 4, 1, 0] rfl)
                    · refine lv_aload_n hx hb dMd_next_73 rfl (lv_at hl 1 rfl) ?_
                      refine va_get (C := RMd) (T := TMd) (N := 25) (ci := 2) (v := .ref (b 6)) hx hb hg inMd hown hK hP 0 rfl rfl 8 (by decide) (hg _ f_Md_33) (fun _ h9 => h9) rfl dMd_next_74 ?_
                      refine lv_iload_n hx hb dMd_next_77 rfl (lv_at hl 4 rfl) ?_
                      refine va_iald hx hb hK hP 6 0 rfl rfl (vp_in_nI (show t < 3600 from hlt) (by decide)) dMd_next_78 ?_
                      refine gx_top (z := ((μ.sM 0 0).A 5) t) (congrArg _ (nI_clamp (Nat.lt_trans (show t < 3600 from hlt) (by decide)))) ?_
                      refine lv_iload_n hx hb dMd_next_79 rfl (lv_at hl 3 rfl) ?_
                      refine lv_icmp_ge (tgt := 92) hx hb dMd_next_80 (by decide) (fun c_80 => ?_) (fun c_80 => ?_)
                      · refine lv_iload_n hx hb dMd_next_92 rfl (lv_at hl 3 rfl) ?_
                        refine gx_top (z := nxM μ.A x (t + 1)) (by simp only [nxM]; rw [if_neg (fun z => z.2.elim c_70 (fun w => absurd w (Int32.not_lt.mpr c_80)))]) ?_
                        refine lv_istore_n (lv' := [(2, .int (nxM μ.A x (t + 1))), (4, .int 1), (0, .ref (b 0)), (1, .int x), (3, .int (nI t))]) hx hb dMd_next_93 rfl hl (by decide) rfl (fun ls hl => ?_)
                        refine lv_iinc (v := nI (t + 1)) (lv' := [(3, .int (nI (t + 1))), (2, .int (nxM μ.A x (t + 1))), (4, .int 1), (0, .ref (b 0)), (1, .int x)]) hx hb dMd_next_94 hl (k := 4) rfl (by rw [← nI_1]; rfl) (by decide) rfl (fun ls hl => ?_)
                        refine lv_goto (tgt := 31) hx hb dMd_next_97 (by decide) ?_
                        exact ih (t + 1) H locs ls (by omega) (by omega) hP hD hS (lv_sub hl [3, 4, 1, 0] rfl)
                      · refine lv_aload_n hx hb dMd_next_83 rfl (lv_at hl 1 rfl) ?_
                        refine va_get (C := RMd) (T := TMd) (N := 25) (ci := 2) (v := .ref (b 6)) hx hb hg inMd hown hK hP 0 rfl rfl 8 (by decide) (hg _ f_Md_33) (fun _ h9 => h9) rfl dMd_next_84 ?_
                        refine lv_iload_n hx hb dMd_next_87 rfl (lv_at hl 4 rfl) ?_
                        refine va_iald hx hb hK hP 6 0 rfl rfl (vp_in_nI (show t < 3600 from hlt) (by decide)) dMd_next_88 ?_
                        refine gx_top (z := ((μ.sM 0 0).A 5) t) (congrArg _ (nI_clamp (Nat.lt_trans (show t < 3600 from hlt) (by decide)))) ?_
                        refine lv_goto (tgt := 93) hx hb dMd_next_89 (by decide) ?_
                        refine gx_top (z := nxM μ.A x (t + 1)) (by simp only [nxM]; rw [if_pos ⟨⟨c_44, Int32.not_le.mp c_54⟩, Or.inr (Int32.not_le.mp c_80)⟩]; rfl) ?_
                        refine lv_istore_n (lv' := [(2, .int (nxM μ.A x (t + 1))), (4, .int 1), (0, .ref (b 0)), (1, .int x), (3, .int (nI t))]) hx hb dMd_next_93 rfl hl (by decide) rfl (fun ls hl => ?_)
                        refine lv_iinc (v := nI (t + 1)) (lv' := [(3, .int (nI (t + 1))), (2, .int (nxM μ.A x (t + 1))), (4, .int 1), (0, .ref (b 0)), (1, .int x)]) hx hb dMd_next_94 hl (k := 4) rfl (by rw [← nI_1]; rfl) (by decide) rfl (fun ls hl => ?_)
                        refine lv_goto (tgt := 31) hx hb dMd_next_97 (by decide) ?_
                        exact ih (t + 1) H locs ls (by omega) (by omega) hP hD hS (lv_sub hl [3, 4, 1, 0] rfl)
        exact key ((3600 - 0) + 1) 0 _ _ ls (Nat.lt_succ_self _) (Nat.zero_le _) hP hD hS (lv_sub hl [2, 3, 1, 0] rfl)
      · exact absurd c_22 (by decide)
