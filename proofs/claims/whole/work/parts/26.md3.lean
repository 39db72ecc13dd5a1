/-! THE REFERENCE: its public methods -/
set_option maxHeartbeats 4000000 in
set_option maxRecDepth 100000 in
/-- the limit (it throws) -/
theorem qMd_limit_no (l : Launch) (D : va_G) (cI cZ : ClassId) (b : Nat → Nat) (μ : mSt) (x : Int32) (hno : ¬ (¬ x < 0 ∧ ¬ 15 < x)) : gx_Mi l yMd_limit (Cond.code yMd_limit cMd_limit 3 (some .int) :: gW) (gR 3) D gC (mdT cI cZ) (mdW cI cZ b) μ [.ref (b 0), .int x] (fun r u => r = 0 ∧ u = μ.sM 0 1) := by
  refine gx_Mi.of (cc := cMd_limit) (maxL := 3) (ret := (some .int)) (by decide) rfl (Nat.le_of_ble_eq_true rfl) ?_
  intro p e s m args below meth c ls A E hA hK hP hD hS hl
  obtain ⟨hx, hb, hr, hml, hts, hown, hlocks, hnm⟩ := id E
  have hg : ∀ w ∈ gW, w.before args s = true := fun w h => hts w (List.mem_cons_of_mem _ h)
  have hown : s.vm.findClass "NurseryRowModel" = some m.cls := hown
  have hl : lv_has ls 3 [(0, .ref (b 0)), (1, .int x)] := hl
  refine lv_aload_n hx hb dMd_limit_0 rfl (lv_at hl 0 rfl) ?_
  refine lv_iload_n hx hb dMd_limit_1 rfl (lv_at hl 1 rfl) ?_
  refine lv_if_lt (tgt := 15) hx hb dMd_limit_2 (by decide) (fun c_2 => ?_) (fun c_2 => ?_)
  · refine lv_iconst (v := 0) hx hb dMd_limit_15 (by decide) ?_
    refine lv_iconst (v := 1) hx hb dMd_limit_16 (by decide) ?_
    refine gx_calli (C := "NurseryRowModel") (As := [.int 0, .int 1]) (rest := []) E (qMd_goes l D cI cZ b μ 0 1) (gx_cwV hts l_Md_88 k_Md_goes ki_Md_goes ke_Md_goes z_Md n_Md_goes ⟨by decide, by decide⟩) hK hP hD hS hA (va_recv hK hP (ci := 2) (q0 := 0) rfl rfl) hl.1 rfl rfl (Nat.le_of_ble_eq_true rfl) ⟨by decide, by decide⟩ dMd_limit_17 (fun r_1 u_2 H locs hq_3 hP hD hS => ?_)
    obtain ⟨hr1, hu1⟩ := hq_3
    have hr1 : r_1 = 0 := hr1
    have hu1 : u_2 = μ.sM 0 1 := hu1
    subst hr1; subst hu1
    refine lv_if_ne (tgt := 25) hx hb dMd_limit_20 (by decide) (fun c_20 => ?_) (fun c_20 => ?_)
    · exact absurd c_20 (by decide)
    · refine lv_iconst (v := 0) hx hb dMd_limit_23 (by decide) ?_
      exact gx_iret (u := μ.sM 0 1) E hK hP hD hS ⟨rfl, rfl⟩ dMd_limit_24
  · refine lv_iload_n hx hb dMd_limit_5 rfl (lv_at hl 1 rfl) ?_
    refine lv_bipush (v := 15) hx hb dMd_limit_6 (by decide) ?_
    refine lv_icmp_gt (tgt := 15) hx hb dMd_limit_8 (by decide) (fun c_8 => ?_) (fun c_8 => ?_)
    · refine lv_iconst (v := 0) hx hb dMd_limit_15 (by decide) ?_
      refine lv_iconst (v := 1) hx hb dMd_limit_16 (by decide) ?_
      refine gx_calli (C := "NurseryRowModel") (As := [.int 0, .int 1]) (rest := []) E (qMd_goes l D cI cZ b μ 0 1) (gx_cwV hts l_Md_88 k_Md_goes ki_Md_goes ke_Md_goes z_Md n_Md_goes ⟨by decide, by decide⟩) hK hP hD hS hA (va_recv hK hP (ci := 2) (q0 := 0) rfl rfl) hl.1 rfl rfl (Nat.le_of_ble_eq_true rfl) ⟨by decide, by decide⟩ dMd_limit_17 (fun r_4 u_5 H locs hq_6 hP hD hS => ?_)
      obtain ⟨hr1, hu1⟩ := hq_6
      have hr1 : r_4 = 0 := hr1
      have hu1 : u_5 = μ.sM 0 1 := hu1
      subst hr1; subst hu1
      refine lv_if_ne (tgt := 25) hx hb dMd_limit_20 (by decide) (fun c_20 => ?_) (fun c_20 => ?_)
      · exact absurd c_20 (by decide)
      · refine lv_iconst (v := 0) hx hb dMd_limit_23 (by decide) ?_
        exact gx_iret (u := μ.sM 0 1) E hK hP hD hS ⟨rfl, rfl⟩ dMd_limit_24
    · exact (hno ⟨c_2, c_8⟩).elim
set_option maxHeartbeats 4000000 in
set_option maxRecDepth 100000 in
/-- the limit -/
theorem qMd_limit_ok (l : Launch) (D : va_G) (cI cZ : ClassId) (b : Nat → Nat) (μ : mSt) (x : Int32) (hok : ¬ x < 0 ∧ ¬ 15 < x) : gx_Mi l yMd_limit (Cond.code yMd_limit cMd_limit 3 (some .int) :: gW) (gR 3) D gC (mdT cI cZ) (mdW cI cZ b) μ [.ref (b 0), .int x] (fun r u => r = μ.M 2 ∧ u = (μ.sM 0 0).sM 2 x) := by
  refine gx_Mi.of (cc := cMd_limit) (maxL := 3) (ret := (some .int)) (by decide) rfl (Nat.le_of_ble_eq_true rfl) ?_
  intro p e s m args below meth c ls A E hA hK hP hD hS hl
  obtain ⟨hx, hb, hr, hml, hts, hown, hlocks, hnm⟩ := id E
  have hg : ∀ w ∈ gW, w.before args s = true := fun w h => hts w (List.mem_cons_of_mem _ h)
  have hown : s.vm.findClass "NurseryRowModel" = some m.cls := hown
  have hl : lv_has ls 3 [(0, .ref (b 0)), (1, .int x)] := hl
  refine lv_aload_n hx hb dMd_limit_0 rfl (lv_at hl 0 rfl) ?_
  refine lv_iload_n hx hb dMd_limit_1 rfl (lv_at hl 1 rfl) ?_
  refine lv_if_lt (tgt := 15) hx hb dMd_limit_2 (by decide) (fun c_2 => ?_) (fun c_2 => ?_)
  · exact absurd c_2 hok.1
  · refine lv_iload_n hx hb dMd_limit_5 rfl (lv_at hl 1 rfl) ?_
    refine lv_bipush (v := 15) hx hb dMd_limit_6 (by decide) ?_
    refine lv_icmp_gt (tgt := 15) hx hb dMd_limit_8 (by decide) (fun c_8 => ?_) (fun c_8 => ?_)
    · exact absurd c_8 hok.2
    · refine lv_iconst (v := 1) hx hb dMd_limit_11 (by decide) ?_
      refine lv_goto (tgt := 16) hx hb dMd_limit_12 (by decide) ?_
      refine lv_iconst (v := 1) hx hb dMd_limit_16 (by decide) ?_
      refine gx_calli (C := "NurseryRowModel") (As := [.int 1, .int 1]) (rest := []) E (qMd_goes l D cI cZ b μ 1 1) (gx_cwV hts l_Md_88 k_Md_goes ki_Md_goes ke_Md_goes z_Md n_Md_goes ⟨by decide, by decide⟩) hK hP hD hS hA (va_recv hK hP (ci := 2) (q0 := 0) rfl rfl) hl.1 rfl rfl (Nat.le_of_ble_eq_true rfl) ⟨by decide, by decide⟩ dMd_limit_17 (fun r_1 u_2 H locs hq_3 hP hD hS => ?_)
      obtain ⟨hr1, hu1⟩ := hq_3
      have hr1 : r_1 = 1 := hr1
      have hu1 : u_2 = μ.sM 0 0 := hu1
      subst hr1; subst hu1
      refine lv_if_ne (tgt := 25) hx hb dMd_limit_20 (by decide) (fun c_20 => ?_) (fun c_20 => ?_)
      · refine lv_aload_n hx hb dMd_limit_25 rfl (lv_at hl 0 rfl) ?_
        refine va_get (C := RMd) (T := TMd) (N := 25) (ci := 2) (v := .int (μ.M 2)) hx hb hg inMd hown hK hP 0 rfl rfl 5 (by decide) (hg _ f_Md_23) (fun _ h9 => h9) rfl dMd_limit_26 ?_
        refine lv_istore_n (lv' := [(2, .int (μ.M 2)), (0, .ref (b 0)), (1, .int x)]) hx hb dMd_limit_29 rfl hl (by decide) rfl (fun ls hl => ?_)
        refine lv_aload_n hx hb dMd_limit_30 rfl (lv_at hl 1 rfl) ?_
        refine lv_iload_n hx hb dMd_limit_31 rfl (lv_at hl 2 rfl) ?_
        refine va_put (C := RMd) (T := TMd) (N := 25) (ci := 2) (v := .int x) hx hb hg inMd tyMd tyMd_ok nmMd hown hK hP hD hS 0 rfl rfl 5 (by decide) (hg _ f_Md_23) (fun _ h9 => h9) rfl (tyMd_ok 5 (by decide)) rfl rfl (Nat.le_of_ble_eq_true rfl) dMd_limit_32 (fun H locs hP hD hS => ?_)
        rw [mdM_2] at hP hD
        refine lv_iload_n hx hb dMd_limit_35 rfl (lv_at hl 0 rfl) ?_
        exact gx_iret (u := (μ.sM 0 0).sM 2 x) E hK hP hD hS ⟨rfl, rfl⟩ dMd_limit_36
      · exact absurd c_20 (by decide)
set_option maxHeartbeats 4000000 in
set_option maxRecDepth 100000 in
/-- sizes (it throws) -/
theorem qMd_space_no (l : Launch) (D : va_G) (cI cZ : ClassId) (b : Nat → Nat) (μ : mSt) (x : Int32) (y : Int32) (z : Int32) (hno : ¬ (¬ x < 16 ∧ ¬ 1024 < x ∧ ¬ y < 0 ∧ ¬ 512 < y ∧ ¬ z < 64 ∧ ¬ 8192 < z)) : gx_Mi l yMd_space (Cond.code yMd_space cMd_space 5 (some .int) :: gW) (gR 3) D gC (mdT cI cZ) (mdW cI cZ b) μ [.ref (b 0), .int x, .int y, .int z] (fun r u => r = 0 ∧ u = μ.sM 0 1) := by
  refine gx_Mi.of (cc := cMd_space) (maxL := 5) (ret := (some .int)) (by decide) rfl (Nat.le_of_ble_eq_true rfl) ?_
  intro p e s m args below meth c ls A E hA hK hP hD hS hl
  obtain ⟨hx, hb, hr, hml, hts, hown, hlocks, hnm⟩ := id E
  have hg : ∀ w ∈ gW, w.before args s = true := fun w h => hts w (List.mem_cons_of_mem _ h)
  have hown : s.vm.findClass "NurseryRowModel" = some m.cls := hown
  have hl : lv_has ls 5 [(0, .ref (b 0)), (1, .int x), (2, .int y), (3, .int z)] := hl
  refine lv_aload_n hx hb dMd_space_0 rfl (lv_at hl 0 rfl) ?_
  refine lv_iload_n hx hb dMd_space_1 rfl (lv_at hl 1 rfl) ?_
  refine lv_bipush (v := 16) hx hb dMd_space_2 (by decide) ?_
  refine lv_icmp_lt (tgt := 42) hx hb dMd_space_4 (by decide) (fun c_4 => ?_) (fun c_4 => ?_)
  · refine lv_iconst (v := 0) hx hb dMd_space_42 (by decide) ?_
    refine lv_iconst (v := 1) hx hb dMd_space_43 (by decide) ?_
    refine gx_calli (C := "NurseryRowModel") (As := [.int 0, .int 1]) (rest := []) E (qMd_goes l D cI cZ b μ 0 1) (gx_cwV hts l_Md_88 k_Md_goes ki_Md_goes ke_Md_goes z_Md n_Md_goes ⟨by decide, by decide⟩) hK hP hD hS hA (va_recv hK hP (ci := 2) (q0 := 0) rfl rfl) hl.1 rfl rfl (Nat.le_of_ble_eq_true rfl) ⟨by decide, by decide⟩ dMd_space_44 (fun r_1 u_2 H locs hq_3 hP hD hS => ?_)
    obtain ⟨hr1, hu1⟩ := hq_3
    have hr1 : r_1 = 0 := hr1
    have hu1 : u_2 = μ.sM 0 1 := hu1
    subst hr1; subst hu1
    refine lv_if_ne (tgt := 52) hx hb dMd_space_47 (by decide) (fun c_47 => ?_) (fun c_47 => ?_)
    · exact absurd c_47 (by decide)
    · refine lv_iconst (v := 0) hx hb dMd_space_50 (by decide) ?_
      exact gx_iret (u := μ.sM 0 1) E hK hP hD hS ⟨rfl, rfl⟩ dMd_space_51
  · refine lv_iload_n hx hb dMd_space_7 rfl (lv_at hl 1 rfl) ?_
    refine lv_sipush (v := 1024) hx hb dMd_space_8 (by decide) ?_
    refine lv_icmp_gt (tgt := 42) hx hb dMd_space_11 (by decide) (fun c_11 => ?_) (fun c_11 => ?_)
    · refine lv_iconst (v := 0) hx hb dMd_space_42 (by decide) ?_
      refine lv_iconst (v := 1) hx hb dMd_space_43 (by decide) ?_
      refine gx_calli (C := "NurseryRowModel") (As := [.int 0, .int 1]) (rest := []) E (qMd_goes l D cI cZ b μ 0 1) (gx_cwV hts l_Md_88 k_Md_goes ki_Md_goes ke_Md_goes z_Md n_Md_goes ⟨by decide, by decide⟩) hK hP hD hS hA (va_recv hK hP (ci := 2) (q0 := 0) rfl rfl) hl.1 rfl rfl (Nat.le_of_ble_eq_true rfl) ⟨by decide, by decide⟩ dMd_space_44 (fun r_4 u_5 H locs hq_6 hP hD hS => ?_)
      obtain ⟨hr1, hu1⟩ := hq_6
      have hr1 : r_4 = 0 := hr1
      have hu1 : u_5 = μ.sM 0 1 := hu1
      subst hr1; subst hu1
      refine lv_if_ne (tgt := 52) hx hb dMd_space_47 (by decide) (fun c_47 => ?_) (fun c_47 => ?_)
      · exact absurd c_47 (by decide)
      · refine lv_iconst (v := 0) hx hb dMd_space_50 (by decide) ?_
        exact gx_iret (u := μ.sM 0 1) E hK hP hD hS ⟨rfl, rfl⟩ dMd_space_51
    · refine lv_iload_n hx hb dMd_space_14 rfl (lv_at hl 2 rfl) ?_
      refine lv_if_lt (tgt := 42) hx hb dMd_space_15 (by decide) (fun c_15 => ?_) (fun c_15 => ?_)
      · refine lv_iconst (v := 0) hx hb dMd_space_42 (by decide) ?_
        refine lv_iconst (v := 1) hx hb dMd_space_43 (by decide) ?_
        refine gx_calli (C := "NurseryRowModel") (As := [.int 0, .int 1]) (rest := []) E (qMd_goes l D cI cZ b μ 0 1) (gx_cwV hts l_Md_88 k_Md_goes ki_Md_goes ke_Md_goes z_Md n_Md_goes ⟨by decide, by decide⟩) hK hP hD hS hA (va_recv hK hP (ci := 2) (q0 := 0) rfl rfl) hl.1 rfl rfl (Nat.le_of_ble_eq_true rfl) ⟨by decide, by decide⟩ dMd_space_44 (fun r_7 u_8 H locs hq_9 hP hD hS => ?_)
        obtain ⟨hr1, hu1⟩ := hq_9
        have hr1 : r_7 = 0 := hr1
        have hu1 : u_8 = μ.sM 0 1 := hu1
        subst hr1; subst hu1
        refine lv_if_ne (tgt := 52) hx hb dMd_space_47 (by decide) (fun c_47 => ?_) (fun c_47 => ?_)
        · exact absurd c_47 (by decide)
        · refine lv_iconst (v := 0) hx hb dMd_space_50 (by decide) ?_
          exact gx_iret (u := μ.sM 0 1) E hK hP hD hS ⟨rfl, rfl⟩ dMd_space_51
      · refine lv_iload_n hx hb dMd_space_18 rfl (lv_at hl 2 rfl) ?_
        refine lv_sipush (v := 512) hx hb dMd_space_19 (by decide) ?_
        refine lv_icmp_gt (tgt := 42) hx hb dMd_space_22 (by decide) (fun c_22 => ?_) (fun c_22 => ?_)
        · refine lv_iconst (v := 0) hx hb dMd_space_42 (by decide) ?_
          refine lv_iconst (v := 1) hx hb dMd_space_43 (by decide) ?_
          refine gx_calli (C := "NurseryRowModel") (As := [.int 0, .int 1]) (rest := []) E (qMd_goes l D cI cZ b μ 0 1) (gx_cwV hts l_Md_88 k_Md_goes ki_Md_goes ke_Md_goes z_Md n_Md_goes ⟨by decide, by decide⟩) hK hP hD hS hA (va_recv hK hP (ci := 2) (q0 := 0) rfl rfl) hl.1 rfl rfl (Nat.le_of_ble_eq_true rfl) ⟨by decide, by decide⟩ dMd_space_44 (fun r_10 u_11 H locs hq_12 hP hD hS => ?_)
          obtain ⟨hr1, hu1⟩ := hq_12
          have hr1 : r_10 = 0 := hr1
          have hu1 : u_11 = μ.sM 0 1 := hu1
          subst hr1; subst hu1
          refine lv_if_ne (tgt := 52) hx hb dMd_space_47 (by decide) (fun c_47 => ?_) (fun c_47 => ?_)
          · exact absurd c_47 (by decide)
          · refine lv_iconst (v := 0) hx hb dMd_space_50 (by decide) ?_
            exact gx_iret (u := μ.sM 0 1) E hK hP hD hS ⟨rfl, rfl⟩ dMd_space_51
        · refine lv_iload_n hx hb dMd_space_25 rfl (lv_at hl 3 rfl) ?_
          refine lv_bipush (v := 64) hx hb dMd_space_26 (by decide) ?_
          refine lv_icmp_lt (tgt := 42) hx hb dMd_space_28 (by decide) (fun c_28 => ?_) (fun c_28 => ?_)
          · refine lv_iconst (v := 0) hx hb dMd_space_42 (by decide) ?_
            refine lv_iconst (v := 1) hx hb dMd_space_43 (by decide) ?_
            refine gx_calli (C := "NurseryRowModel") (As := [.int 0, .int 1]) (rest := []) E (qMd_goes l D cI cZ b μ 0 1) (gx_cwV hts l_Md_88 k_Md_goes ki_Md_goes ke_Md_goes z_Md n_Md_goes ⟨by decide, by decide⟩) hK hP hD hS hA (va_recv hK hP (ci := 2) (q0 := 0) rfl rfl) hl.1 rfl rfl (Nat.le_of_ble_eq_true rfl) ⟨by decide, by decide⟩ dMd_space_44 (fun r_13 u_14 H locs hq_15 hP hD hS => ?_)
            obtain ⟨hr1, hu1⟩ := hq_15
            have hr1 : r_13 = 0 := hr1
            have hu1 : u_14 = μ.sM 0 1 := hu1
            subst hr1; subst hu1
            refine lv_if_ne (tgt := 52) hx hb dMd_space_47 (by decide) (fun c_47 => ?_) (fun c_47 => ?_)
            · exact absurd c_47 (by decide)
            · refine lv_iconst (v := 0) hx hb dMd_space_50 (by decide) ?_
              exact gx_iret (u := μ.sM 0 1) E hK hP hD hS ⟨rfl, rfl⟩ dMd_space_51
          · refine lv_iload_n hx hb dMd_space_31 rfl (lv_at hl 3 rfl) ?_
            refine lv_sipush (v := 8192) hx hb dMd_space_32 (by decide) ?_
            refine lv_icmp_gt (tgt := 42) hx hb dMd_space_35 (by decide) (fun c_35 => ?_) (fun c_35 => ?_)
            · refine lv_iconst (v := 0) hx hb dMd_space_42 (by decide) ?_
              refine lv_iconst (v := 1) hx hb dMd_space_43 (by decide) ?_
              refine gx_calli (C := "NurseryRowModel") (As := [.int 0, .int 1]) (rest := []) E (qMd_goes l D cI cZ b μ 0 1) (gx_cwV hts l_Md_88 k_Md_goes ki_Md_goes ke_Md_goes z_Md n_Md_goes ⟨by decide, by decide⟩) hK hP hD hS hA (va_recv hK hP (ci := 2) (q0 := 0) rfl rfl) hl.1 rfl rfl (Nat.le_of_ble_eq_true rfl) ⟨by decide, by decide⟩ dMd_space_44 (fun r_16 u_17 H locs hq_18 hP hD hS => ?_)
              obtain ⟨hr1, hu1⟩ := hq_18
              have hr1 : r_16 = 0 := hr1
              have hu1 : u_17 = μ.sM 0 1 := hu1
              subst hr1; subst hu1
              refine lv_if_ne (tgt := 52) hx hb dMd_space_47 (by decide) (fun c_47 => ?_) (fun c_47 => ?_)
              · exact absurd c_47 (by decide)
              · refine lv_iconst (v := 0) hx hb dMd_space_50 (by decide) ?_
                exact gx_iret (u := μ.sM 0 1) E hK hP hD hS ⟨rfl, rfl⟩ dMd_space_51
            · exact (hno ⟨c_4, c_11, c_15, c_22, c_28, c_35⟩).elim
set_option maxHeartbeats 4000000 in
set_option maxRecDepth 100000 in
/-- sizes -/
theorem qMd_space_ok (l : Launch) (D : va_G) (cI cZ : ClassId) (b : Nat → Nat) (μ : mSt) (x : Int32) (y : Int32) (z : Int32) (hok : ¬ x < 16 ∧ ¬ 1024 < x ∧ ¬ y < 0 ∧ ¬ 512 < y ∧ ¬ z < 64 ∧ ¬ 8192 < z) : gx_Mi l yMd_space (Cond.code yMd_space cMd_space 5 (some .int) :: gW) (gR 3) D gC (mdT cI cZ) (mdW cI cZ b) μ [.ref (b 0), .int x, .int y, .int z] (fun r u => r = μ.A 1 0 + μ.A 1 1 + μ.A 1 2 + μ.A 1 3 ∧ u = layM (μ.sM 0 0) x y z) := by
  refine gx_Mi.of (cc := cMd_space) (maxL := 5) (ret := (some .int)) (by decide) rfl (Nat.le_of_ble_eq_true rfl) ?_
  intro p e s m args below meth c ls A E hA hK hP hD hS hl
  obtain ⟨hx, hb, hr, hml, hts, hown, hlocks, hnm⟩ := id E
  have hg : ∀ w ∈ gW, w.before args s = true := fun w h => hts w (List.mem_cons_of_mem _ h)
  have hown : s.vm.findClass "NurseryRowModel" = some m.cls := hown
  have hl : lv_has ls 5 [(0, .ref (b 0)), (1, .int x), (2, .int y), (3, .int z)] := hl
  refine lv_aload_n hx hb dMd_space_0 rfl (lv_at hl 0 rfl) ?_
  refine lv_iload_n hx hb dMd_space_1 rfl (lv_at hl 1 rfl) ?_
  refine lv_bipush (v := 16) hx hb dMd_space_2 (by decide) ?_
  refine lv_icmp_lt (tgt := 42) hx hb dMd_space_4 (by decide) (fun c_4 => ?_) (fun c_4 => ?_)
  · exact absurd c_4 hok.1
  · refine lv_iload_n hx hb dMd_space_7 rfl (lv_at hl 1 rfl) ?_
    refine lv_sipush (v := 1024) hx hb dMd_space_8 (by decide) ?_
    refine lv_icmp_gt (tgt := 42) hx hb dMd_space_11 (by decide) (fun c_11 => ?_) (fun c_11 => ?_)
    · exact absurd c_11 hok.2.1
    · refine lv_iload_n hx hb dMd_space_14 rfl (lv_at hl 2 rfl) ?_
      refine lv_if_lt (tgt := 42) hx hb dMd_space_15 (by decide) (fun c_15 => ?_) (fun c_15 => ?_)
      · exact absurd c_15 hok.2.2.1
      · refine lv_iload_n hx hb dMd_space_18 rfl (lv_at hl 2 rfl) ?_
        refine lv_sipush (v := 512) hx hb dMd_space_19 (by decide) ?_
        refine lv_icmp_gt (tgt := 42) hx hb dMd_space_22 (by decide) (fun c_22 => ?_) (fun c_22 => ?_)
        · exact absurd c_22 hok.2.2.2.1
        · refine lv_iload_n hx hb dMd_space_25 rfl (lv_at hl 3 rfl) ?_
          refine lv_bipush (v := 64) hx hb dMd_space_26 (by decide) ?_
          refine lv_icmp_lt (tgt := 42) hx hb dMd_space_28 (by decide) (fun c_28 => ?_) (fun c_28 => ?_)
          · exact absurd c_28 hok.2.2.2.2.1
          · refine lv_iload_n hx hb dMd_space_31 rfl (lv_at hl 3 rfl) ?_
            refine lv_sipush (v := 8192) hx hb dMd_space_32 (by decide) ?_
            refine lv_icmp_gt (tgt := 42) hx hb dMd_space_35 (by decide) (fun c_35 => ?_) (fun c_35 => ?_)
            · exact absurd c_35 hok.2.2.2.2.2
            · refine lv_iconst (v := 1) hx hb dMd_space_38 (by decide) ?_
              refine lv_goto (tgt := 43) hx hb dMd_space_39 (by decide) ?_
              refine lv_iconst (v := 1) hx hb dMd_space_43 (by decide) ?_
              refine gx_calli (C := "NurseryRowModel") (As := [.int 1, .int 1]) (rest := []) E (qMd_goes l D cI cZ b μ 1 1) (gx_cwV hts l_Md_88 k_Md_goes ki_Md_goes ke_Md_goes z_Md n_Md_goes ⟨by decide, by decide⟩) hK hP hD hS hA (va_recv hK hP (ci := 2) (q0 := 0) rfl rfl) hl.1 rfl rfl (Nat.le_of_ble_eq_true rfl) ⟨by decide, by decide⟩ dMd_space_44 (fun r_1 u_2 H locs hq_3 hP hD hS => ?_)
              obtain ⟨hr1, hu1⟩ := hq_3
              have hr1 : r_1 = 1 := hr1
              have hu1 : u_2 = μ.sM 0 0 := hu1
              subst hr1; subst hu1
              refine lv_if_ne (tgt := 52) hx hb dMd_space_47 (by decide) (fun c_47 => ?_) (fun c_47 => ?_)
              · refine lv_aload_n hx hb dMd_space_52 rfl (lv_at hl 0 rfl) ?_
                refine va_get (C := RMd) (T := TMd) (N := 25) (ci := 2) (v := .ref (b 2)) hx hb hg inMd hown hK hP 0 rfl rfl 2 (by decide) (hg _ f_Md_13) (fun _ h9 => h9) rfl dMd_space_53 ?_
                refine lv_iconst (v := 0) hx hb dMd_space_56 (by decide) ?_
                refine va_iald hx hb hK hP 2 0 rfl rfl (by unfold vp_in; decide) dMd_space_57 ?_
                refine gx_top (z := (μ.A 1) 0) rfl ?_
                refine lv_aload_n hx hb dMd_space_58 rfl (lv_at hl 0 rfl) ?_
                refine va_get (C := RMd) (T := TMd) (N := 25) (ci := 2) (v := .ref (b 2)) hx hb hg inMd hown hK hP 0 rfl rfl 2 (by decide) (hg _ f_Md_13) (fun _ h9 => h9) rfl dMd_space_59 ?_
                refine lv_iconst (v := 1) hx hb dMd_space_62 (by decide) ?_
                refine va_iald hx hb hK hP 2 0 rfl rfl (by unfold vp_in; decide) dMd_space_63 ?_
                refine gx_top (z := (μ.A 1) 1) rfl ?_
                refine lv_iadd hx hb dMd_space_64 ?_
                refine lv_aload_n hx hb dMd_space_65 rfl (lv_at hl 0 rfl) ?_
                refine va_get (C := RMd) (T := TMd) (N := 25) (ci := 2) (v := .ref (b 2)) hx hb hg inMd hown hK hP 0 rfl rfl 2 (by decide) (hg _ f_Md_13) (fun _ h9 => h9) rfl dMd_space_66 ?_
                refine lv_iconst (v := 2) hx hb dMd_space_69 (by decide) ?_
                refine va_iald hx hb hK hP 2 0 rfl rfl (by unfold vp_in; decide) dMd_space_70 ?_
                refine gx_top (z := (μ.A 1) 2) rfl ?_
                refine lv_iadd hx hb dMd_space_71 ?_
                refine lv_aload_n hx hb dMd_space_72 rfl (lv_at hl 0 rfl) ?_
                refine va_get (C := RMd) (T := TMd) (N := 25) (ci := 2) (v := .ref (b 2)) hx hb hg inMd hown hK hP 0 rfl rfl 2 (by decide) (hg _ f_Md_13) (fun _ h9 => h9) rfl dMd_space_73 ?_
                refine lv_iconst (v := 3) hx hb dMd_space_76 (by decide) ?_
                refine va_iald hx hb hK hP 2 0 rfl rfl (by unfold vp_in; decide) dMd_space_77 ?_
                refine gx_top (z := (μ.A 1) 3) rfl ?_
                refine lv_iadd hx hb dMd_space_78 ?_
                refine lv_istore (lv' := [(4, .int (((((μ.A 1) 0) + ((μ.A 1) 1)) + ((μ.A 1) 2)) + ((μ.A 1) 3))), (0, .ref (b 0)), (1, .int x), (2, .int y), (3, .int z)]) hx hb dMd_space_79 hl (by decide) rfl (fun ls hl => ?_)
                refine lv_aload_n hx hb dMd_space_81 rfl (lv_at hl 1 rfl) ?_
                refine lv_iload_n hx hb dMd_space_82 rfl (lv_at hl 2 rfl) ?_
                refine lv_iload_n hx hb dMd_space_83 rfl (lv_at hl 3 rfl) ?_
                refine lv_iload_n hx hb dMd_space_84 rfl (lv_at hl 4 rfl) ?_
                refine gx_callv (C := "NurseryRowModel") (As := [.int x, .int y, .int z]) (rest := []) E (qMd_lay l D cI cZ b (μ.sM 0 0) x y z) (gx_cwV hts l_Md_66 k_Md_lay ki_Md_lay ke_Md_lay z_Md n_Md_lay ⟨by decide, by decide⟩) hK hP hD hS hA (va_recv hK hP (ci := 2) (q0 := 0) rfl rfl) hl.1 rfl rfl (Nat.le_of_ble_eq_true rfl) ⟨by decide, by decide⟩ dMd_space_85 (fun u_5 H locs hq_6 hP hD hS => ?_)
                subst hq_6
                refine lv_iload hx hb dMd_space_88 (lv_at hl 0 rfl) ?_
                exact gx_iret (u := layM (μ.sM 0 0) x y z) E hK hP hD hS ⟨rfl, rfl⟩ dMd_space_90
              · exact absurd c_47 (by decide)
set_option maxHeartbeats 4000000 in
set_option maxRecDepth 100000 in
/-- what a root tells (it throws) -/
theorem qMd_rooted_no (l : Launch) (D : va_G) (cI cZ : ClassId) (b : Nat → Nat) (μ : mSt) (x : Int32) (hno : ¬ (¬ x < 0 ∧ ¬ 16 ≤ x)) : gx_Mi l yMd_rooted (Cond.code yMd_rooted cMd_rooted 2 (some .int) :: gW) (gR 3) D gC (mdT cI cZ) (mdW cI cZ b) μ [.ref (b 0), .int x] (fun r u => r = 0 ∧ u = μ.sM 0 1) := by
  refine gx_Mi.of (cc := cMd_rooted) (maxL := 2) (ret := (some .int)) (by decide) rfl (Nat.le_of_ble_eq_true rfl) ?_
  intro p e s m args below meth c ls A E hA hK hP hD hS hl
  obtain ⟨hx, hb, hr, hml, hts, hown, hlocks, hnm⟩ := id E
  have hg : ∀ w ∈ gW, w.before args s = true := fun w h => hts w (List.mem_cons_of_mem _ h)
  have hown : s.vm.findClass "NurseryRowModel" = some m.cls := hown
  have hl : lv_has ls 2 [(0, .ref (b 0)), (1, .int x)] := hl
  refine lv_aload_n hx hb dMd_rooted_0 rfl (lv_at hl 0 rfl) ?_
  refine lv_iload_n hx hb dMd_rooted_1 rfl (lv_at hl 1 rfl) ?_
  refine lv_if_lt (tgt := 15) hx hb dMd_rooted_2 (by decide) (fun c_2 => ?_) (fun c_2 => ?_)
  · refine lv_iconst (v := 0) hx hb dMd_rooted_15 (by decide) ?_
    refine lv_iconst (v := 1) hx hb dMd_rooted_16 (by decide) ?_
    refine gx_calli (C := "NurseryRowModel") (As := [.int 0, .int 1]) (rest := []) E (qMd_goes l D cI cZ b μ 0 1) (gx_cwV hts l_Md_88 k_Md_goes ki_Md_goes ke_Md_goes z_Md n_Md_goes ⟨by decide, by decide⟩) hK hP hD hS hA (va_recv hK hP (ci := 2) (q0 := 0) rfl rfl) hl.1 rfl rfl (Nat.le_of_ble_eq_true rfl) ⟨by decide, by decide⟩ dMd_rooted_17 (fun r_1 u_2 H locs hq_3 hP hD hS => ?_)
    obtain ⟨hr1, hu1⟩ := hq_3
    have hr1 : r_1 = 0 := hr1
    have hu1 : u_2 = μ.sM 0 1 := hu1
    subst hr1; subst hu1
    refine lv_if_eq (tgt := 36) hx hb dMd_rooted_20 (by decide) (fun c_20 => ?_) (fun c_20 => ?_)
    · refine lv_iconst (v := 0) hx hb dMd_rooted_36 (by decide) ?_
      exact gx_iret (u := μ.sM 0 1) E hK hP hD hS ⟨rfl, rfl⟩ dMd_rooted_37
    · exact absurd c_20 (by decide)
  · refine lv_iload_n hx hb dMd_rooted_5 rfl (lv_at hl 1 rfl) ?_
    refine lv_bipush (v := 16) hx hb dMd_rooted_6 (by decide) ?_
    refine lv_icmp_ge (tgt := 15) hx hb dMd_rooted_8 (by decide) (fun c_8 => ?_) (fun c_8 => ?_)
    · refine lv_iconst (v := 0) hx hb dMd_rooted_15 (by decide) ?_
      refine lv_iconst (v := 1) hx hb dMd_rooted_16 (by decide) ?_
      refine gx_calli (C := "NurseryRowModel") (As := [.int 0, .int 1]) (rest := []) E (qMd_goes l D cI cZ b μ 0 1) (gx_cwV hts l_Md_88 k_Md_goes ki_Md_goes ke_Md_goes z_Md n_Md_goes ⟨by decide, by decide⟩) hK hP hD hS hA (va_recv hK hP (ci := 2) (q0 := 0) rfl rfl) hl.1 rfl rfl (Nat.le_of_ble_eq_true rfl) ⟨by decide, by decide⟩ dMd_rooted_17 (fun r_4 u_5 H locs hq_6 hP hD hS => ?_)
      obtain ⟨hr1, hu1⟩ := hq_6
      have hr1 : r_4 = 0 := hr1
      have hu1 : u_5 = μ.sM 0 1 := hu1
      subst hr1; subst hu1
      refine lv_if_eq (tgt := 36) hx hb dMd_rooted_20 (by decide) (fun c_20 => ?_) (fun c_20 => ?_)
      · refine lv_iconst (v := 0) hx hb dMd_rooted_36 (by decide) ?_
        exact gx_iret (u := μ.sM 0 1) E hK hP hD hS ⟨rfl, rfl⟩ dMd_rooted_37
      · exact absurd c_20 (by decide)
    · exact (hno ⟨c_2, c_8⟩).elim
set_option maxHeartbeats 4000000 in
set_option maxRecDepth 100000 in
/-- what a root tells -/
theorem qMd_rooted_ok (l : Launch) (D : va_G) (cI cZ : ClassId) (b : Nat → Nat) (μ : mSt) (x : Int32) (hv : toOk (μ.A 15 x.toNatClampNeg)) (hok : ¬ x < 0 ∧ ¬ 16 ≤ x) : gx_Mi l yMd_rooted (Cond.code yMd_rooted cMd_rooted 2 (some .int) :: gW) (gR 3) D gC (mdT cI cZ) (mdW cI cZ b) μ [.ref (b 0), .int x] (fun r u => r = toM (μ.sM 0 0) (μ.A 15 x.toNatClampNeg) ∧ u = μ.sM 0 0) := by
  refine gx_Mi.of (cc := cMd_rooted) (maxL := 2) (ret := (some .int)) (by decide) rfl (Nat.le_of_ble_eq_true rfl) ?_
  intro p e s m args below meth c ls A E hA hK hP hD hS hl
  obtain ⟨hx, hb, hr, hml, hts, hown, hlocks, hnm⟩ := id E
  have hg : ∀ w ∈ gW, w.before args s = true := fun w h => hts w (List.mem_cons_of_mem _ h)
  have hown : s.vm.findClass "NurseryRowModel" = some m.cls := hown
  have hl : lv_has ls 2 [(0, .ref (b 0)), (1, .int x)] := hl
  refine lv_aload_n hx hb dMd_rooted_0 rfl (lv_at hl 0 rfl) ?_
  refine lv_iload_n hx hb dMd_rooted_1 rfl (lv_at hl 1 rfl) ?_
  refine lv_if_lt (tgt := 15) hx hb dMd_rooted_2 (by decide) (fun c_2 => ?_) (fun c_2 => ?_)
  · exact absurd c_2 hok.1
  · refine lv_iload_n hx hb dMd_rooted_5 rfl (lv_at hl 1 rfl) ?_
    refine lv_bipush (v := 16) hx hb dMd_rooted_6 (by decide) ?_
    refine lv_icmp_ge (tgt := 15) hx hb dMd_rooted_8 (by decide) (fun c_8 => ?_) (fun c_8 => ?_)
    · exact absurd c_8 hok.2
    · refine lv_iconst (v := 1) hx hb dMd_rooted_11 (by decide) ?_
      refine lv_goto (tgt := 16) hx hb dMd_rooted_12 (by decide) ?_
      refine lv_iconst (v := 1) hx hb dMd_rooted_16 (by decide) ?_
      refine gx_calli (C := "NurseryRowModel") (As := [.int 1, .int 1]) (rest := []) E (qMd_goes l D cI cZ b μ 1 1) (gx_cwV hts l_Md_88 k_Md_goes ki_Md_goes ke_Md_goes z_Md n_Md_goes ⟨by decide, by decide⟩) hK hP hD hS hA (va_recv hK hP (ci := 2) (q0 := 0) rfl rfl) hl.1 rfl rfl (Nat.le_of_ble_eq_true rfl) ⟨by decide, by decide⟩ dMd_rooted_17 (fun r_1 u_2 H locs hq_3 hP hD hS => ?_)
      obtain ⟨hr1, hu1⟩ := hq_3
      have hr1 : r_1 = 1 := hr1
      have hu1 : u_2 = μ.sM 0 0 := hu1
      subst hr1; subst hu1
      refine lv_if_eq (tgt := 36) hx hb dMd_rooted_20 (by decide) (fun c_20 => ?_) (fun c_20 => ?_)
      · exact absurd c_20 (by decide)
      · obtain ⟨rt, hxt, hrt⟩ : ∃ n, x = nI n ∧ n < 16 := isR_ne (by simp [isR, hok.1, hok.2])
        refine lv_aload_n hx hb dMd_rooted_23 rfl (lv_at hl 0 rfl) ?_
        refine lv_aload_n hx hb dMd_rooted_24 rfl (lv_at hl 0 rfl) ?_
        refine va_get (C := RMd) (T := TMd) (N := 25) (ci := 2) (v := .ref (b 16)) hx hb hg inMd hown hK hP 0 rfl rfl 21 (by decide) (hg _ f_Md_63) (fun _ h9 => h9) rfl dMd_rooted_25 ?_
        refine lv_iload_n hx hb dMd_rooted_28 rfl (lv_at hl 1 rfl) ?_
        refine va_iald hx hb hK hP 16 0 rfl rfl (by rw [hxt]; exact vp_in_nI hrt (by decide)) dMd_rooted_29 ?_
        refine gx_callp (C := "NurseryRowModel") (As := [.int ((μ.A 15) x.toNatClampNeg)]) (rest := []) E (qMd_told l D cI cZ b (μ.sM 0 0) ((μ.A 15) x.toNatClampNeg) hv) (gx_cwV hts l_Md_104 k_Md_told ki_Md_told ke_Md_told z_Md n_Md_told ⟨by decide, by decide⟩) hK hP hD (va_recv hK hP (ci := 2) (q0 := 0) rfl rfl) hl.1 rfl rfl (Nat.le_of_ble_eq_true rfl) ⟨Nat.zero_le _, Nat.zero_le _⟩ dMd_rooted_30 ?_
        refine lv_goto (tgt := 37) hx hb dMd_rooted_33 (by decide) ?_
        exact gx_iret (u := μ.sM 0 0) E hK hP hD hS ⟨rfl, rfl⟩ dMd_rooted_37
set_option maxHeartbeats 4000000 in
set_option maxRecDepth 100000 in
/-- a root (it throws) -/
theorem qMd_root_no (l : Launch) (D : va_G) (cI cZ : ClassId) (b : Nat → Nat) (μ : mSt) (x y ko : Int32) (ho : ¬ y = 0 → objR μ y ko) (hno : ¬ (¬ x < 0 ∧ ¬ 16 ≤ x ∧ (y = 0 ∨ ¬ ko < 0))) : gx_Mi l yMd_root (Cond.code yMd_root cMd_root 5 (some .int) :: gW) (gR 3) D gC (mdT cI cZ) (mdW cI cZ b) μ [.ref (b 0), .int x, .int y] (fun r u => r = 0 ∧ u = μ.sM 0 1) := by
  refine gx_Mi.of (cc := cMd_root) (maxL := 5) (ret := (some .int)) (by decide) rfl (Nat.le_of_ble_eq_true rfl) ?_
  intro p e s m args below meth c ls A E hA hK hP hD hS hl
  obtain ⟨hx, hb, hr, hml, hts, hown, hlocks, hnm⟩ := id E
  have hg : ∀ w ∈ gW, w.before args s = true := fun w h => hts w (List.mem_cons_of_mem _ h)
  have hown : s.vm.findClass "NurseryRowModel" = some m.cls := hown
  have hl : lv_has ls 5 [(0, .ref (b 0)), (1, .int x), (2, .int y)] := hl
  refine lv_iload_n hx hb dMd_root_0 rfl (lv_at hl 2 rfl) ?_
  refine lv_if_ne (tgt := 8) hx hb dMd_root_1 (by decide) (fun c_1 => ?_) (fun c_1 => ?_)
  · refine lv_aload_n hx hb dMd_root_8 rfl (lv_at hl 0 rfl) ?_
    refine lv_iload_n hx hb dMd_root_9 rfl (lv_at hl 2 rfl) ?_
    refine gx_callp (C := "NurseryRowModel") (As := [.int y]) (rest := []) E (qMd_object l D cI cZ b μ y ko (ho c_1)) (gx_cwV hts l_Md_96 k_Md_object ki_Md_object ke_Md_object z_Md n_Md_object ⟨by decide, by decide⟩) hK hP hD (va_recv hK hP (ci := 2) (q0 := 0) rfl rfl) hl.1 rfl rfl (Nat.le_of_ble_eq_true rfl) ⟨Nat.zero_le _, Nat.zero_le _⟩ dMd_root_10 ?_
    refine lv_istore_n (lv' := [(3, .int ko), (0, .ref (b 0)), (1, .int x), (2, .int y)]) hx hb dMd_root_13 rfl hl (by decide) rfl (fun ls hl => ?_)
    refine lv_aload_n hx hb dMd_root_14 rfl (lv_at hl 1 rfl) ?_
    refine lv_iload_n hx hb dMd_root_15 rfl (lv_at hl 2 rfl) ?_
    refine lv_if_lt (tgt := 37) hx hb dMd_root_16 (by decide) (fun c_16 => ?_) (fun c_16 => ?_)
    · refine lv_iconst (v := 0) hx hb dMd_root_37 (by decide) ?_
      refine lv_iconst (v := 1) hx hb dMd_root_38 (by decide) ?_
      refine gx_calli (C := "NurseryRowModel") (As := [.int 0, .int 1]) (rest := []) E (qMd_goes l D cI cZ b μ 0 1) (gx_cwV hts l_Md_88 k_Md_goes ki_Md_goes ke_Md_goes z_Md n_Md_goes ⟨by decide, by decide⟩) hK hP hD hS hA (va_recv hK hP (ci := 2) (q0 := 0) rfl rfl) hl.1 rfl rfl (Nat.le_of_ble_eq_true rfl) ⟨by decide, by decide⟩ dMd_root_39 (fun r_1 u_2 H locs hq_3 hP hD hS => ?_)
      obtain ⟨hr1, hu1⟩ := hq_3
      have hr1 : r_1 = 0 := hr1
      have hu1 : u_2 = μ.sM 0 1 := hu1
      subst hr1; subst hu1
      refine lv_if_ne (tgt := 47) hx hb dMd_root_42 (by decide) (fun c_42 => ?_) (fun c_42 => ?_)
      · exact absurd c_42 (by decide)
      · refine lv_iconst (v := 0) hx hb dMd_root_45 (by decide) ?_
        exact gx_iret (u := μ.sM 0 1) E hK hP hD hS ⟨rfl, rfl⟩ dMd_root_46
    · refine lv_iload_n hx hb dMd_root_19 rfl (lv_at hl 2 rfl) ?_
      refine lv_bipush (v := 16) hx hb dMd_root_20 (by decide) ?_
      refine lv_icmp_ge (tgt := 37) hx hb dMd_root_22 (by decide) (fun c_22 => ?_) (fun c_22 => ?_)
      · refine lv_iconst (v := 0) hx hb dMd_root_37 (by decide) ?_
        refine lv_iconst (v := 1) hx hb dMd_root_38 (by decide) ?_
        refine gx_calli (C := "NurseryRowModel") (As := [.int 0, .int 1]) (rest := []) E (qMd_goes l D cI cZ b μ 0 1) (gx_cwV hts l_Md_88 k_Md_goes ki_Md_goes ke_Md_goes z_Md n_Md_goes ⟨by decide, by decide⟩) hK hP hD hS hA (va_recv hK hP (ci := 2) (q0 := 0) rfl rfl) hl.1 rfl rfl (Nat.le_of_ble_eq_true rfl) ⟨by decide, by decide⟩ dMd_root_39 (fun r_4 u_5 H locs hq_6 hP hD hS => ?_)
        obtain ⟨hr1, hu1⟩ := hq_6
        have hr1 : r_4 = 0 := hr1
        have hu1 : u_5 = μ.sM 0 1 := hu1
        subst hr1; subst hu1
        refine lv_if_ne (tgt := 47) hx hb dMd_root_42 (by decide) (fun c_42 => ?_) (fun c_42 => ?_)
        · exact absurd c_42 (by decide)
        · refine lv_iconst (v := 0) hx hb dMd_root_45 (by decide) ?_
          exact gx_iret (u := μ.sM 0 1) E hK hP hD hS ⟨rfl, rfl⟩ dMd_root_46
      · refine lv_iload_n hx hb dMd_root_25 rfl (lv_at hl 3 rfl) ?_
        refine lv_if_eq (tgt := 33) hx hb dMd_root_26 (by decide) (fun c_26 => ?_) (fun c_26 => ?_)
        · exact absurd c_26 c_1
        · refine lv_iload_n hx hb dMd_root_29 rfl (lv_at hl 0 rfl) ?_
          refine lv_if_lt (tgt := 37) hx hb dMd_root_30 (by decide) (fun c_30 => ?_) (fun c_30 => ?_)
          · refine lv_iconst (v := 0) hx hb dMd_root_37 (by decide) ?_
            refine lv_iconst (v := 1) hx hb dMd_root_38 (by decide) ?_
            refine gx_calli (C := "NurseryRowModel") (As := [.int 0, .int 1]) (rest := []) E (qMd_goes l D cI cZ b μ 0 1) (gx_cwV hts l_Md_88 k_Md_goes ki_Md_goes ke_Md_goes z_Md n_Md_goes ⟨by decide, by decide⟩) hK hP hD hS hA (va_recv hK hP (ci := 2) (q0 := 0) rfl rfl) hl.1 rfl rfl (Nat.le_of_ble_eq_true rfl) ⟨by decide, by decide⟩ dMd_root_39 (fun r_7 u_8 H locs hq_9 hP hD hS => ?_)
            obtain ⟨hr1, hu1⟩ := hq_9
            have hr1 : r_7 = 0 := hr1
            have hu1 : u_8 = μ.sM 0 1 := hu1
            subst hr1; subst hu1
            refine lv_if_ne (tgt := 47) hx hb dMd_root_42 (by decide) (fun c_42 => ?_) (fun c_42 => ?_)
            · exact absurd c_42 (by decide)
            · refine lv_iconst (v := 0) hx hb dMd_root_45 (by decide) ?_
              exact gx_iret (u := μ.sM 0 1) E hK hP hD hS ⟨rfl, rfl⟩ dMd_root_46
          · exact (hno ⟨c_16, c_22, Or.inr c_30⟩).elim
  · refine lv_iconst (v := (-1)) hx hb dMd_root_4 (by decide) ?_
    refine lv_goto (tgt := 13) hx hb dMd_root_5 (by decide) ?_
    refine lv_istore_n (lv' := [(3, .int (-1)), (0, .ref (b 0)), (1, .int x), (2, .int y)]) hx hb dMd_root_13 rfl hl (by decide) rfl (fun ls hl => ?_)
    refine lv_aload_n hx hb dMd_root_14 rfl (lv_at hl 1 rfl) ?_
    refine lv_iload_n hx hb dMd_root_15 rfl (lv_at hl 2 rfl) ?_
    refine lv_if_lt (tgt := 37) hx hb dMd_root_16 (by decide) (fun c_16 => ?_) (fun c_16 => ?_)
    · refine lv_iconst (v := 0) hx hb dMd_root_37 (by decide) ?_
      refine lv_iconst (v := 1) hx hb dMd_root_38 (by decide) ?_
      refine gx_calli (C := "NurseryRowModel") (As := [.int 0, .int 1]) (rest := []) E (qMd_goes l D cI cZ b μ 0 1) (gx_cwV hts l_Md_88 k_Md_goes ki_Md_goes ke_Md_goes z_Md n_Md_goes ⟨by decide, by decide⟩) hK hP hD hS hA (va_recv hK hP (ci := 2) (q0 := 0) rfl rfl) hl.1 rfl rfl (Nat.le_of_ble_eq_true rfl) ⟨by decide, by decide⟩ dMd_root_39 (fun r_10 u_11 H locs hq_12 hP hD hS => ?_)
      obtain ⟨hr1, hu1⟩ := hq_12
      have hr1 : r_10 = 0 := hr1
      have hu1 : u_11 = μ.sM 0 1 := hu1
      subst hr1; subst hu1
      refine lv_if_ne (tgt := 47) hx hb dMd_root_42 (by decide) (fun c_42 => ?_) (fun c_42 => ?_)
      · exact absurd c_42 (by decide)
      · refine lv_iconst (v := 0) hx hb dMd_root_45 (by decide) ?_
        exact gx_iret (u := μ.sM 0 1) E hK hP hD hS ⟨rfl, rfl⟩ dMd_root_46
    · refine lv_iload_n hx hb dMd_root_19 rfl (lv_at hl 2 rfl) ?_
      refine lv_bipush (v := 16) hx hb dMd_root_20 (by decide) ?_
      refine lv_icmp_ge (tgt := 37) hx hb dMd_root_22 (by decide) (fun c_22 => ?_) (fun c_22 => ?_)
      · refine lv_iconst (v := 0) hx hb dMd_root_37 (by decide) ?_
        refine lv_iconst (v := 1) hx hb dMd_root_38 (by decide) ?_
        refine gx_calli (C := "NurseryRowModel") (As := [.int 0, .int 1]) (rest := []) E (qMd_goes l D cI cZ b μ 0 1) (gx_cwV hts l_Md_88 k_Md_goes ki_Md_goes ke_Md_goes z_Md n_Md_goes ⟨by decide, by decide⟩) hK hP hD hS hA (va_recv hK hP (ci := 2) (q0 := 0) rfl rfl) hl.1 rfl rfl (Nat.le_of_ble_eq_true rfl) ⟨by decide, by decide⟩ dMd_root_39 (fun r_13 u_14 H locs hq_15 hP hD hS => ?_)
        obtain ⟨hr1, hu1⟩ := hq_15
        have hr1 : r_13 = 0 := hr1
        have hu1 : u_14 = μ.sM 0 1 := hu1
        subst hr1; subst hu1
        refine lv_if_ne (tgt := 47) hx hb dMd_root_42 (by decide) (fun c_42 => ?_) (fun c_42 => ?_)
        · exact absurd c_42 (by decide)
        · refine lv_iconst (v := 0) hx hb dMd_root_45 (by decide) ?_
          exact gx_iret (u := μ.sM 0 1) E hK hP hD hS ⟨rfl, rfl⟩ dMd_root_46
      · refine lv_iload_n hx hb dMd_root_25 rfl (lv_at hl 3 rfl) ?_
        refine lv_if_eq (tgt := 33) hx hb dMd_root_26 (by decide) (fun c_26 => ?_) (fun c_26 => ?_)
        · exact (hno ⟨c_16, c_22, Or.inl c_26⟩).elim
        · exact absurd c_26 (not_not_intro c_1)
set_option maxHeartbeats 4000000 in
set_option maxRecDepth 100000 in
/-- a root -/
theorem qMd_root_ok (l : Launch) (D : va_G) (cI cZ : ClassId) (b : Nat → Nat) (μ : mSt) (x y ko : Int32) (ho : ¬ y = 0 → objR μ y ko) (hv : toOk (μ.A 15 x.toNatClampNeg)) (hok : ¬ x < 0 ∧ ¬ 16 ≤ x ∧ (y = 0 ∨ ¬ ko < 0)) : gx_Mi l yMd_root (Cond.code yMd_root cMd_root 5 (some .int) :: gW) (gR 3) D gC (mdT cI cZ) (mdW cI cZ b) μ [.ref (b 0), .int x, .int y] (fun r u => r = toM (((μ.sM 0 0)).sA 15 (upd (μ.A 15) x.toNatClampNeg (if y = 0 then 0 else ko + 1))) (μ.A 15 x.toNatClampNeg) ∧ u = (μ.sM 0 0).sA 15 (upd (μ.A 15) x.toNatClampNeg (if y = 0 then 0 else ko + 1))) := by
  refine gx_Mi.of (cc := cMd_root) (maxL := 5) (ret := (some .int)) (by decide) rfl (Nat.le_of_ble_eq_true rfl) ?_
  intro p e s m args below meth c ls A E hA hK hP hD hS hl
  obtain ⟨hx, hb, hr, hml, hts, hown, hlocks, hnm⟩ := id E
  have hg : ∀ w ∈ gW, w.before args s = true := fun w h => hts w (List.mem_cons_of_mem _ h)
  have hown : s.vm.findClass "NurseryRowModel" = some m.cls := hown
  have hl : lv_has ls 5 [(0, .ref (b 0)), (1, .int x), (2, .int y)] := hl
  refine lv_iload_n hx hb dMd_root_0 rfl (lv_at hl 2 rfl) ?_
  refine lv_if_ne (tgt := 8) hx hb dMd_root_1 (by decide) (fun c_1 => ?_) (fun c_1 => ?_)
  · refine lv_aload_n hx hb dMd_root_8 rfl (lv_at hl 0 rfl) ?_
    refine lv_iload_n hx hb dMd_root_9 rfl (lv_at hl 2 rfl) ?_
    refine gx_callp (C := "NurseryRowModel") (As := [.int y]) (rest := []) E (qMd_object l D cI cZ b μ y ko (ho c_1)) (gx_cwV hts l_Md_96 k_Md_object ki_Md_object ke_Md_object z_Md n_Md_object ⟨by decide, by decide⟩) hK hP hD (va_recv hK hP (ci := 2) (q0 := 0) rfl rfl) hl.1 rfl rfl (Nat.le_of_ble_eq_true rfl) ⟨Nat.zero_le _, Nat.zero_le _⟩ dMd_root_10 ?_
    refine lv_istore_n (lv' := [(3, .int ko), (0, .ref (b 0)), (1, .int x), (2, .int y)]) hx hb dMd_root_13 rfl hl (by decide) rfl (fun ls hl => ?_)
    refine lv_aload_n hx hb dMd_root_14 rfl (lv_at hl 1 rfl) ?_
    refine lv_iload_n hx hb dMd_root_15 rfl (lv_at hl 2 rfl) ?_
    refine lv_if_lt (tgt := 37) hx hb dMd_root_16 (by decide) (fun c_16 => ?_) (fun c_16 => ?_)
    · exact absurd c_16 hok.1
    · refine lv_iload_n hx hb dMd_root_19 rfl (lv_at hl 2 rfl) ?_
      refine lv_bipush (v := 16) hx hb dMd_root_20 (by decide) ?_
      refine lv_icmp_ge (tgt := 37) hx hb dMd_root_22 (by decide) (fun c_22 => ?_) (fun c_22 => ?_)
      · exact absurd c_22 hok.2.1
      · refine lv_iload_n hx hb dMd_root_25 rfl (lv_at hl 3 rfl) ?_
        refine lv_if_eq (tgt := 33) hx hb dMd_root_26 (by decide) (fun c_26 => ?_) (fun c_26 => ?_)
        · exact absurd c_26 c_1
        · refine lv_iload_n hx hb dMd_root_29 rfl (lv_at hl 0 rfl) ?_
          refine lv_if_lt (tgt := 37) hx hb dMd_root_30 (by decide) (fun c_30 => ?_) (fun c_30 => ?_)
          · exact absurd c_30 (hok.2.2.resolve_left c_26)
          · refine lv_iconst (v := 1) hx hb dMd_root_33 (by decide) ?_
            refine lv_goto (tgt := 38) hx hb dMd_root_34 (by decide) ?_
            refine lv_iconst (v := 1) hx hb dMd_root_38 (by decide) ?_
            refine gx_calli (C := "NurseryRowModel") (As := [.int 1, .int 1]) (rest := []) E (qMd_goes l D cI cZ b μ 1 1) (gx_cwV hts l_Md_88 k_Md_goes ki_Md_goes ke_Md_goes z_Md n_Md_goes ⟨by decide, by decide⟩) hK hP hD hS hA (va_recv hK hP (ci := 2) (q0 := 0) rfl rfl) hl.1 rfl rfl (Nat.le_of_ble_eq_true rfl) ⟨by decide, by decide⟩ dMd_root_39 (fun r_1 u_2 H locs hq_3 hP hD hS => ?_)
            obtain ⟨hr1, hu1⟩ := hq_3
            have hr1 : r_1 = 1 := hr1
            have hu1 : u_2 = μ.sM 0 0 := hu1
            subst hr1; subst hu1
            refine lv_if_ne (tgt := 47) hx hb dMd_root_42 (by decide) (fun c_42 => ?_) (fun c_42 => ?_)
            · obtain ⟨rt, hxt, hrt⟩ : ∃ n, x = nI n ∧ n < 16 := isR_ne (by simp [isR, hok.1, hok.2.1])
              refine lv_aload_n hx hb dMd_root_47 rfl (lv_at hl 1 rfl) ?_
              refine va_get (C := RMd) (T := TMd) (N := 25) (ci := 2) (v := .ref (b 16)) hx hb hg inMd hown hK hP 0 rfl rfl 21 (by decide) (hg _ f_Md_63) (fun _ h9 => h9) rfl dMd_root_48 ?_
              refine lv_iload_n hx hb dMd_root_51 rfl (lv_at hl 2 rfl) ?_
              refine va_iald hx hb hK hP 16 0 rfl rfl (by rw [hxt]; exact vp_in_nI hrt (by decide)) dMd_root_52 ?_
              refine lv_istore (lv' := [(4, .int ((μ.A 15) x.toNatClampNeg)), (3, .int ko), (0, .ref (b 0)), (1, .int x), (2, .int y)]) hx hb dMd_root_53 hl (by decide) rfl (fun ls hl => ?_)
              refine lv_aload_n hx hb dMd_root_55 rfl (lv_at hl 2 rfl) ?_
              refine va_get (C := RMd) (T := TMd) (N := 25) (ci := 2) (v := .ref (b 16)) hx hb hg inMd hown hK hP 0 rfl rfl 21 (by decide) (hg _ f_Md_63) (fun _ h9 => h9) rfl dMd_root_56 ?_
              refine lv_iload_n hx hb dMd_root_59 rfl (lv_at hl 3 rfl) ?_
              refine lv_iload_n hx hb dMd_root_60 rfl (lv_at hl 1 rfl) ?_
              refine lv_iconst (v := 1) hx hb dMd_root_61 (by decide) ?_
              refine lv_iadd hx hb dMd_root_62 ?_
              refine va_iast hx hb hK hP hD hS 16 0 rfl rfl (by rw [hxt]; exact vp_in_nI hrt (by decide)) dMd_root_63 (fun H locs hP hD hS => ?_)
              rw [mdA_15] at hP hD
              refine lv_aload_n hx hb dMd_root_64 rfl (lv_at hl 2 rfl) ?_
              refine lv_iload hx hb dMd_root_65 (lv_at hl 0 rfl) ?_
              refine gx_callp (C := "NurseryRowModel") (As := [.int ((μ.A 15) x.toNatClampNeg)]) (rest := []) E (qMd_told l D cI cZ b ((μ.sM 0 0).sA 15 (upd (μ.A 15) x.toNatClampNeg (ko + 1))) ((μ.A 15) x.toNatClampNeg) hv) (gx_cwV hts l_Md_104 k_Md_told ki_Md_told ke_Md_told z_Md n_Md_told ⟨by decide, by decide⟩) hK hP hD (va_recv hK hP (ci := 2) (q0 := 0) rfl rfl) hl.1 rfl rfl (Nat.le_of_ble_eq_true rfl) ⟨Nat.zero_le _, Nat.zero_le _⟩ dMd_root_67 ?_
              exact gx_iret (u := (μ.sM 0 0).sA 15 (upd (μ.A 15) x.toNatClampNeg (ko + 1))) E hK hP hD hS ⟨by simp only [if_neg c_1], by simp only [if_neg c_1]⟩ dMd_root_70
            · exact absurd c_42 (by decide)
  · refine lv_iconst (v := (-1)) hx hb dMd_root_4 (by decide) ?_
    refine lv_goto (tgt := 13) hx hb dMd_root_5 (by decide) ?_
    refine lv_istore_n (lv' := [(3, .int (-1)), (0, .ref (b 0)), (1, .int x), (2, .int y)]) hx hb dMd_root_13 rfl hl (by decide) rfl (fun ls hl => ?_)
    refine lv_aload_n hx hb dMd_root_14 rfl (lv_at hl 1 rfl) ?_
    refine lv_iload_n hx hb dMd_root_15 rfl (lv_at hl 2 rfl) ?_
    refine lv_if_lt (tgt := 37) hx hb dMd_root_16 (by decide) (fun c_16 => ?_) (fun c_16 => ?_)
    · exact absurd c_16 hok.1
    · refine lv_iload_n hx hb dMd_root_19 rfl (lv_at hl 2 rfl) ?_
      refine lv_bipush (v := 16) hx hb dMd_root_20 (by decide) ?_
      refine lv_icmp_ge (tgt := 37) hx hb dMd_root_22 (by decide) (fun c_22 => ?_) (fun c_22 => ?_)
      · exact absurd c_22 hok.2.1
      · refine lv_iload_n hx hb dMd_root_25 rfl (lv_at hl 3 rfl) ?_
        refine lv_if_eq (tgt := 33) hx hb dMd_root_26 (by decide) (fun c_26 => ?_) (fun c_26 => ?_)
        · refine lv_iconst (v := 1) hx hb dMd_root_33 (by decide) ?_
          refine lv_goto (tgt := 38) hx hb dMd_root_34 (by decide) ?_
          refine lv_iconst (v := 1) hx hb dMd_root_38 (by decide) ?_
          refine gx_calli (C := "NurseryRowModel") (As := [.int 1, .int 1]) (rest := []) E (qMd_goes l D cI cZ b μ 1 1) (gx_cwV hts l_Md_88 k_Md_goes ki_Md_goes ke_Md_goes z_Md n_Md_goes ⟨by decide, by decide⟩) hK hP hD hS hA (va_recv hK hP (ci := 2) (q0 := 0) rfl rfl) hl.1 rfl rfl (Nat.le_of_ble_eq_true rfl) ⟨by decide, by decide⟩ dMd_root_39 (fun r_4 u_5 H locs hq_6 hP hD hS => ?_)
          obtain ⟨hr1, hu1⟩ := hq_6
          have hr1 : r_4 = 1 := hr1
          have hu1 : u_5 = μ.sM 0 0 := hu1
          subst hr1; subst hu1
          refine lv_if_ne (tgt := 47) hx hb dMd_root_42 (by decide) (fun c_42 => ?_) (fun c_42 => ?_)
          · obtain ⟨rt, hxt, hrt⟩ : ∃ n, x = nI n ∧ n < 16 := isR_ne (by simp [isR, hok.1, hok.2.1])
            refine lv_aload_n hx hb dMd_root_47 rfl (lv_at hl 1 rfl) ?_
            refine va_get (C := RMd) (T := TMd) (N := 25) (ci := 2) (v := .ref (b 16)) hx hb hg inMd hown hK hP 0 rfl rfl 21 (by decide) (hg _ f_Md_63) (fun _ h9 => h9) rfl dMd_root_48 ?_
            refine lv_iload_n hx hb dMd_root_51 rfl (lv_at hl 2 rfl) ?_
            refine va_iald hx hb hK hP 16 0 rfl rfl (by rw [hxt]; exact vp_in_nI hrt (by decide)) dMd_root_52 ?_
            refine lv_istore (lv' := [(4, .int ((μ.A 15) x.toNatClampNeg)), (3, .int (-1)), (0, .ref (b 0)), (1, .int x), (2, .int y)]) hx hb dMd_root_53 hl (by decide) rfl (fun ls hl => ?_)
            refine lv_aload_n hx hb dMd_root_55 rfl (lv_at hl 2 rfl) ?_
            refine va_get (C := RMd) (T := TMd) (N := 25) (ci := 2) (v := .ref (b 16)) hx hb hg inMd hown hK hP 0 rfl rfl 21 (by decide) (hg _ f_Md_63) (fun _ h9 => h9) rfl dMd_root_56 ?_
            refine lv_iload_n hx hb dMd_root_59 rfl (lv_at hl 3 rfl) ?_
            refine lv_iload_n hx hb dMd_root_60 rfl (lv_at hl 1 rfl) ?_
            refine lv_iconst (v := 1) hx hb dMd_root_61 (by decide) ?_
            refine lv_iadd hx hb dMd_root_62 ?_
            refine gx_top (z := 0) (by decide) ?_
            refine va_iast hx hb hK hP hD hS 16 0 rfl rfl (by rw [hxt]; exact vp_in_nI hrt (by decide)) dMd_root_63 (fun H locs hP hD hS => ?_)
            rw [mdA_15] at hP hD
            refine lv_aload_n hx hb dMd_root_64 rfl (lv_at hl 2 rfl) ?_
            refine lv_iload hx hb dMd_root_65 (lv_at hl 0 rfl) ?_
            refine gx_callp (C := "NurseryRowModel") (As := [.int ((μ.A 15) x.toNatClampNeg)]) (rest := []) E (qMd_told l D cI cZ b ((μ.sM 0 0).sA 15 (upd (μ.A 15) x.toNatClampNeg 0)) ((μ.A 15) x.toNatClampNeg) hv) (gx_cwV hts l_Md_104 k_Md_told ki_Md_told ke_Md_told z_Md n_Md_told ⟨by decide, by decide⟩) hK hP hD (va_recv hK hP (ci := 2) (q0 := 0) rfl rfl) hl.1 rfl rfl (Nat.le_of_ble_eq_true rfl) ⟨Nat.zero_le _, Nat.zero_le _⟩ dMd_root_67 ?_
            exact gx_iret (u := (μ.sM 0 0).sA 15 (upd (μ.A 15) x.toNatClampNeg 0)) E hK hP hD hS ⟨by simp only [if_pos c_1], by simp only [if_pos c_1]⟩ dMd_root_70
          · exact absurd c_42 (by decide)
        · exact absurd c_26 (not_not_intro c_1)
set_option maxHeartbeats 4000000 in
set_option maxRecDepth 100000 in
/-- what a field tells (it throws) -/
theorem qMd_get_no (l : Launch) (D : va_G) (cI cZ : ClassId) (b : Nat → Nat) (μ : mSt) (x f ko : Int32) (ho : objR μ x ko) (hno : ¬ (¬ flM μ ko f < 0)) : gx_Mi l yMd_get (Cond.code yMd_get cMd_get 4 (some .int) :: gW) (gR 3) D gC (mdT cI cZ) (mdW cI cZ b) μ [.ref (b 0), .int x, .int f] (fun r u => r = 0 ∧ u = μ.sM 0 1) := by
  refine gx_Mi.of (cc := cMd_get) (maxL := 4) (ret := (some .int)) (by decide) rfl (Nat.le_of_ble_eq_true rfl) ?_
  intro p e s m args below meth c ls A E hA hK hP hD hS hl
  obtain ⟨hx, hb, hr, hml, hts, hown, hlocks, hnm⟩ := id E
  have hg : ∀ w ∈ gW, w.before args s = true := fun w h => hts w (List.mem_cons_of_mem _ h)
  have hown : s.vm.findClass "NurseryRowModel" = some m.cls := hown
  have hl : lv_has ls 4 [(0, .ref (b 0)), (1, .int x), (2, .int f)] := hl
  refine lv_aload_n hx hb dMd_get_0 rfl (lv_at hl 0 rfl) ?_
  refine lv_iload_n hx hb dMd_get_1 rfl (lv_at hl 1 rfl) ?_
  refine lv_iload_n hx hb dMd_get_2 rfl (lv_at hl 2 rfl) ?_
  refine gx_callp (C := "NurseryRowModel") (As := [.int x, .int f]) (rest := []) E (qMd_field l D cI cZ b μ x f ko ho) (gx_cwV hts l_Md_100 k_Md_field ki_Md_field ke_Md_field z_Md n_Md_field ⟨by decide, by decide⟩) hK hP hD (va_recv hK hP (ci := 2) (q0 := 0) rfl rfl) hl.1 rfl rfl (Nat.le_of_ble_eq_true rfl) ⟨Nat.zero_le _, Nat.zero_le _⟩ dMd_get_3 ?_
  refine lv_istore_n (lv' := [(3, .int (flM μ ko f)), (0, .ref (b 0)), (1, .int x), (2, .int f)]) hx hb dMd_get_6 rfl hl (by decide) rfl (fun ls hl => ?_)
  refine lv_aload_n hx hb dMd_get_7 rfl (lv_at hl 1 rfl) ?_
  refine lv_iload_n hx hb dMd_get_8 rfl (lv_at hl 0 rfl) ?_
  refine lv_if_lt (tgt := 16) hx hb dMd_get_9 (by decide) (fun c_9 => ?_) (fun c_9 => ?_)
  · refine lv_iconst (v := 0) hx hb dMd_get_16 (by decide) ?_
    refine lv_iconst (v := 1) hx hb dMd_get_17 (by decide) ?_
    refine gx_calli (C := "NurseryRowModel") (As := [.int 0, .int 1]) (rest := []) E (qMd_goes l D cI cZ b μ 0 1) (gx_cwV hts l_Md_88 k_Md_goes ki_Md_goes ke_Md_goes z_Md n_Md_goes ⟨by decide, by decide⟩) hK hP hD hS hA (va_recv hK hP (ci := 2) (q0 := 0) rfl rfl) hl.1 rfl rfl (Nat.le_of_ble_eq_true rfl) ⟨by decide, by decide⟩ dMd_get_18 (fun r_1 u_2 H locs hq_3 hP hD hS => ?_)
    obtain ⟨hr1, hu1⟩ := hq_3
    have hr1 : r_1 = 0 := hr1
    have hu1 : u_2 = μ.sM 0 1 := hu1
    subst hr1; subst hu1
    refine lv_if_eq (tgt := 37) hx hb dMd_get_21 (by decide) (fun c_21 => ?_) (fun c_21 => ?_)
    · refine lv_iconst (v := 0) hx hb dMd_get_37 (by decide) ?_
      exact gx_iret (u := μ.sM 0 1) E hK hP hD hS ⟨rfl, rfl⟩ dMd_get_38
    · exact absurd c_21 (by decide)
  · exact (hno c_9).elim
set_option maxHeartbeats 4000000 in
set_option maxRecDepth 100000 in
/-- what a field tells -/
theorem qMd_get_ok (l : Launch) (D : va_G) (cI cZ : ClassId) (b : Nat → Nat) (μ : mSt) (x f ko : Int32) (kt : Nat) (ho : objR μ x ko) (hkt : kt < 24000) (hat : flM μ ko f = nI kt) (hv : toOk (μ.A 10 kt)) (hok : ¬ flM μ ko f < 0) : gx_Mi l yMd_get (Cond.code yMd_get cMd_get 4 (some .int) :: gW) (gR 3) D gC (mdT cI cZ) (mdW cI cZ b) μ [.ref (b 0), .int x, .int f] (fun r u => r = toM (μ.sM 0 0) (μ.A 10 kt) ∧ u = μ.sM 0 0) := by
  refine gx_Mi.of (cc := cMd_get) (maxL := 4) (ret := (some .int)) (by decide) rfl (Nat.le_of_ble_eq_true rfl) ?_
  intro p e s m args below meth c ls A E hA hK hP hD hS hl
  obtain ⟨hx, hb, hr, hml, hts, hown, hlocks, hnm⟩ := id E
  have hg : ∀ w ∈ gW, w.before args s = true := fun w h => hts w (List.mem_cons_of_mem _ h)
  have hown : s.vm.findClass "NurseryRowModel" = some m.cls := hown
  have hl : lv_has ls 4 [(0, .ref (b 0)), (1, .int x), (2, .int f)] := hl
  refine lv_aload_n hx hb dMd_get_0 rfl (lv_at hl 0 rfl) ?_
  refine lv_iload_n hx hb dMd_get_1 rfl (lv_at hl 1 rfl) ?_
  refine lv_iload_n hx hb dMd_get_2 rfl (lv_at hl 2 rfl) ?_
  refine gx_callp (C := "NurseryRowModel") (As := [.int x, .int f]) (rest := []) E (qMd_field l D cI cZ b μ x f ko ho) (gx_cwV hts l_Md_100 k_Md_field ki_Md_field ke_Md_field z_Md n_Md_field ⟨by decide, by decide⟩) hK hP hD (va_recv hK hP (ci := 2) (q0 := 0) rfl rfl) hl.1 rfl rfl (Nat.le_of_ble_eq_true rfl) ⟨Nat.zero_le _, Nat.zero_le _⟩ dMd_get_3 ?_
  refine lv_istore_n (lv' := [(3, .int (flM μ ko f)), (0, .ref (b 0)), (1, .int x), (2, .int f)]) hx hb dMd_get_6 rfl hl (by decide) rfl (fun ls hl => ?_)
  refine lv_aload_n hx hb dMd_get_7 rfl (lv_at hl 1 rfl) ?_
  refine lv_iload_n hx hb dMd_get_8 rfl (lv_at hl 0 rfl) ?_
  refine lv_if_lt (tgt := 16) hx hb dMd_get_9 (by decide) (fun c_9 => ?_) (fun c_9 => ?_)
  · exact absurd c_9 hok
  · refine lv_iconst (v := 1) hx hb dMd_get_12 (by decide) ?_
    refine lv_goto (tgt := 17) hx hb dMd_get_13 (by decide) ?_
    refine lv_iconst (v := 1) hx hb dMd_get_17 (by decide) ?_
    refine gx_calli (C := "NurseryRowModel") (As := [.int 1, .int 1]) (rest := []) E (qMd_goes l D cI cZ b μ 1 1) (gx_cwV hts l_Md_88 k_Md_goes ki_Md_goes ke_Md_goes z_Md n_Md_goes ⟨by decide, by decide⟩) hK hP hD hS hA (va_recv hK hP (ci := 2) (q0 := 0) rfl rfl) hl.1 rfl rfl (Nat.le_of_ble_eq_true rfl) ⟨by decide, by decide⟩ dMd_get_18 (fun r_1 u_2 H locs hq_3 hP hD hS => ?_)
    obtain ⟨hr1, hu1⟩ := hq_3
    have hr1 : r_1 = 1 := hr1
    have hu1 : u_2 = μ.sM 0 0 := hu1
    subst hr1; subst hu1
    refine lv_if_eq (tgt := 37) hx hb dMd_get_21 (by decide) (fun c_21 => ?_) (fun c_21 => ?_)
    · exact absurd c_21 (by decide)
    · refine lv_aload_n hx hb dMd_get_24 rfl (lv_at hl 1 rfl) ?_
      refine lv_aload_n hx hb dMd_get_25 rfl (lv_at hl 1 rfl) ?_
      refine va_get (C := RMd) (T := TMd) (N := 25) (ci := 2) (v := .ref (b 11)) hx hb hg inMd hown hK hP 0 rfl rfl 14 (by decide) (hg _ f_Md_48) (fun _ h9 => h9) rfl dMd_get_26 ?_
      refine lv_iload_n hx hb dMd_get_29 rfl (lv_at hl 0 rfl) ?_
      refine va_iald hx hb hK hP 11 0 rfl rfl (by rw [hat]; exact vp_in_nI hkt (by decide)) dMd_get_30 ?_
      refine gx_top (z := (μ.A 10) kt) (congrArg _ (by rw [hat]; exact nI_clamp (Nat.lt_trans hkt (by decide)))) ?_
      refine gx_callp (C := "NurseryRowModel") (As := [.int ((μ.A 10) kt)]) (rest := []) E (qMd_told l D cI cZ b (μ.sM 0 0) ((μ.A 10) kt) hv) (gx_cwV hts l_Md_104 k_Md_told ki_Md_told ke_Md_told z_Md n_Md_told ⟨by decide, by decide⟩) hK hP hD (va_recv hK hP (ci := 2) (q0 := 0) rfl rfl) hl.1 rfl rfl (Nat.le_of_ble_eq_true rfl) ⟨Nat.zero_le _, Nat.zero_le _⟩ dMd_get_31 ?_
      refine lv_goto (tgt := 38) hx hb dMd_get_34 (by decide) ?_
      exact gx_iret (u := μ.sM 0 0) E hK hP hD hS ⟨rfl, rfl⟩ dMd_get_38
set_option maxHeartbeats 4000000 in
set_option maxRecDepth 100000 in
/-- a word (it throws) -/
theorem qMd_word_no (l : Launch) (D : va_G) (cI cZ : ClassId) (b : Nat → Nat) (μ : mSt) (x f ko : Int32) (ho : objR μ x ko) (hno : ¬ (¬ wlM μ ko f < 0)) : gx_Mi l yMd_word (Cond.code yMd_word cMd_word 4 (some .int) :: gW) (gR 3) D gC (mdT cI cZ) (mdW cI cZ b) μ [.ref (b 0), .int x, .int f] (fun r u => r = 0 ∧ u = μ.sM 0 1) := by
  refine gx_Mi.of (cc := cMd_word) (maxL := 4) (ret := (some .int)) (by decide) rfl (Nat.le_of_ble_eq_true rfl) ?_
  intro p e s m args below meth c ls A E hA hK hP hD hS hl
  obtain ⟨hx, hb, hr, hml, hts, hown, hlocks, hnm⟩ := id E
  have hg : ∀ w ∈ gW, w.before args s = true := fun w h => hts w (List.mem_cons_of_mem _ h)
  have hown : s.vm.findClass "NurseryRowModel" = some m.cls := hown
  have hl : lv_has ls 4 [(0, .ref (b 0)), (1, .int x), (2, .int f)] := hl
  refine lv_aload_n hx hb dMd_word_0 rfl (lv_at hl 0 rfl) ?_
  refine lv_iload_n hx hb dMd_word_1 rfl (lv_at hl 1 rfl) ?_
  refine lv_iload_n hx hb dMd_word_2 rfl (lv_at hl 2 rfl) ?_
  refine gx_callp (C := "NurseryRowModel") (As := [.int x, .int f]) (rest := []) E (qMd_place l D cI cZ b μ x f ko ho) (gx_cwV hts l_Md_107 k_Md_place ki_Md_place ke_Md_place z_Md n_Md_place ⟨by decide, by decide⟩) hK hP hD (va_recv hK hP (ci := 2) (q0 := 0) rfl rfl) hl.1 rfl rfl (Nat.le_of_ble_eq_true rfl) ⟨Nat.zero_le _, Nat.zero_le _⟩ dMd_word_3 ?_
  refine lv_istore_n (lv' := [(3, .int (wlM μ ko f)), (0, .ref (b 0)), (1, .int x), (2, .int f)]) hx hb dMd_word_6 rfl hl (by decide) rfl (fun ls hl => ?_)
  refine lv_aload_n hx hb dMd_word_7 rfl (lv_at hl 1 rfl) ?_
  refine lv_iload_n hx hb dMd_word_8 rfl (lv_at hl 0 rfl) ?_
  refine lv_if_lt (tgt := 16) hx hb dMd_word_9 (by decide) (fun c_9 => ?_) (fun c_9 => ?_)
  · refine lv_iconst (v := 0) hx hb dMd_word_16 (by decide) ?_
    refine lv_iconst (v := 1) hx hb dMd_word_17 (by decide) ?_
    refine gx_calli (C := "NurseryRowModel") (As := [.int 0, .int 1]) (rest := []) E (qMd_goes l D cI cZ b μ 0 1) (gx_cwV hts l_Md_88 k_Md_goes ki_Md_goes ke_Md_goes z_Md n_Md_goes ⟨by decide, by decide⟩) hK hP hD hS hA (va_recv hK hP (ci := 2) (q0 := 0) rfl rfl) hl.1 rfl rfl (Nat.le_of_ble_eq_true rfl) ⟨by decide, by decide⟩ dMd_word_18 (fun r_1 u_2 H locs hq_3 hP hD hS => ?_)
    obtain ⟨hr1, hu1⟩ := hq_3
    have hr1 : r_1 = 0 := hr1
    have hu1 : u_2 = μ.sM 0 1 := hu1
    subst hr1; subst hu1
    refine lv_if_eq (tgt := 33) hx hb dMd_word_21 (by decide) (fun c_21 => ?_) (fun c_21 => ?_)
    · refine lv_iconst (v := 0) hx hb dMd_word_33 (by decide) ?_
      exact gx_iret (u := μ.sM 0 1) E hK hP hD hS ⟨rfl, rfl⟩ dMd_word_34
    · exact absurd c_21 (by decide)
  · exact (hno c_9).elim
set_option maxHeartbeats 4000000 in
set_option maxRecDepth 100000 in
/-- a word -/
theorem qMd_word_ok (l : Launch) (D : va_G) (cI cZ : ClassId) (b : Nat → Nat) (μ : mSt) (x f ko : Int32) (kt : Nat) (ho : objR μ x ko) (hkt : kt < 24000) (hat : wlM μ ko f = nI kt) (hok : ¬ wlM μ ko f < 0) : gx_Mi l yMd_word (Cond.code yMd_word cMd_word 4 (some .int) :: gW) (gR 3) D gC (mdT cI cZ) (mdW cI cZ b) μ [.ref (b 0), .int x, .int f] (fun r u => r = μ.A 10 kt ∧ u = μ.sM 0 0) := by
  refine gx_Mi.of (cc := cMd_word) (maxL := 4) (ret := (some .int)) (by decide) rfl (Nat.le_of_ble_eq_true rfl) ?_
  intro p e s m args below meth c ls A E hA hK hP hD hS hl
  obtain ⟨hx, hb, hr, hml, hts, hown, hlocks, hnm⟩ := id E
  have hg : ∀ w ∈ gW, w.before args s = true := fun w h => hts w (List.mem_cons_of_mem _ h)
  have hown : s.vm.findClass "NurseryRowModel" = some m.cls := hown
  have hl : lv_has ls 4 [(0, .ref (b 0)), (1, .int x), (2, .int f)] := hl
  refine lv_aload_n hx hb dMd_word_0 rfl (lv_at hl 0 rfl) ?_
  refine lv_iload_n hx hb dMd_word_1 rfl (lv_at hl 1 rfl) ?_
  refine lv_iload_n hx hb dMd_word_2 rfl (lv_at hl 2 rfl) ?_
  refine gx_callp (C := "NurseryRowModel") (As := [.int x, .int f]) (rest := []) E (qMd_place l D cI cZ b μ x f ko ho) (gx_cwV hts l_Md_107 k_Md_place ki_Md_place ke_Md_place z_Md n_Md_place ⟨by decide, by decide⟩) hK hP hD (va_recv hK hP (ci := 2) (q0 := 0) rfl rfl) hl.1 rfl rfl (Nat.le_of_ble_eq_true rfl) ⟨Nat.zero_le _, Nat.zero_le _⟩ dMd_word_3 ?_
  refine lv_istore_n (lv' := [(3, .int (wlM μ ko f)), (0, .ref (b 0)), (1, .int x), (2, .int f)]) hx hb dMd_word_6 rfl hl (by decide) rfl (fun ls hl => ?_)
  refine lv_aload_n hx hb dMd_word_7 rfl (lv_at hl 1 rfl) ?_
  refine lv_iload_n hx hb dMd_word_8 rfl (lv_at hl 0 rfl) ?_
  refine lv_if_lt (tgt := 16) hx hb dMd_word_9 (by decide) (fun c_9 => ?_) (fun c_9 => ?_)
  · exact absurd c_9 hok
  · refine lv_iconst (v := 1) hx hb dMd_word_12 (by decide) ?_
    refine lv_goto (tgt := 17) hx hb dMd_word_13 (by decide) ?_
    refine lv_iconst (v := 1) hx hb dMd_word_17 (by decide) ?_
    refine gx_calli (C := "NurseryRowModel") (As := [.int 1, .int 1]) (rest := []) E (qMd_goes l D cI cZ b μ 1 1) (gx_cwV hts l_Md_88 k_Md_goes ki_Md_goes ke_Md_goes z_Md n_Md_goes ⟨by decide, by decide⟩) hK hP hD hS hA (va_recv hK hP (ci := 2) (q0 := 0) rfl rfl) hl.1 rfl rfl (Nat.le_of_ble_eq_true rfl) ⟨by decide, by decide⟩ dMd_word_18 (fun r_1 u_2 H locs hq_3 hP hD hS => ?_)
    obtain ⟨hr1, hu1⟩ := hq_3
    have hr1 : r_1 = 1 := hr1
    have hu1 : u_2 = μ.sM 0 0 := hu1
    subst hr1; subst hu1
    refine lv_if_eq (tgt := 33) hx hb dMd_word_21 (by decide) (fun c_21 => ?_) (fun c_21 => ?_)
    · exact absurd c_21 (by decide)
    · refine lv_aload_n hx hb dMd_word_24 rfl (lv_at hl 1 rfl) ?_
      refine va_get (C := RMd) (T := TMd) (N := 25) (ci := 2) (v := .ref (b 11)) hx hb hg inMd hown hK hP 0 rfl rfl 14 (by decide) (hg _ f_Md_48) (fun _ h9 => h9) rfl dMd_word_25 ?_
      refine lv_iload_n hx hb dMd_word_28 rfl (lv_at hl 0 rfl) ?_
      refine va_iald hx hb hK hP 11 0 rfl rfl (by rw [hat]; exact vp_in_nI hkt (by decide)) dMd_word_29 ?_
      refine gx_top (z := (μ.A 10) kt) (congrArg _ (by rw [hat]; exact nI_clamp (Nat.lt_trans hkt (by decide)))) ?_
      refine lv_goto (tgt := 34) hx hb dMd_word_30 (by decide) ?_
      exact gx_iret (u := μ.sM 0 0) E hK hP hD hS ⟨rfl, rfl⟩ dMd_word_34
set_option maxHeartbeats 4000000 in
set_option maxRecDepth 100000 in
/-- a word becomes y (it throws) -/
theorem qMd_put_no (l : Launch) (D : va_G) (cI cZ : ClassId) (b : Nat → Nat) (μ : mSt) (x f y ko : Int32) (ho : objR μ x ko) (hno : ¬ (¬ wlM μ ko f < 0)) : gx_Mi l yMd_put (Cond.code yMd_put cMd_put 6 (some .int) :: gW) (gR 3) D gC (mdT cI cZ) (mdW cI cZ b) μ [.ref (b 0), .int x, .int f, .int y] (fun r u => r = 0 ∧ u = μ.sM 0 1) := by
  refine gx_Mi.of (cc := cMd_put) (maxL := 6) (ret := (some .int)) (by decide) rfl (Nat.le_of_ble_eq_true rfl) ?_
  intro p e s m args below meth c ls A E hA hK hP hD hS hl
  obtain ⟨hx, hb, hr, hml, hts, hown, hlocks, hnm⟩ := id E
  have hg : ∀ w ∈ gW, w.before args s = true := fun w h => hts w (List.mem_cons_of_mem _ h)
  have hown : s.vm.findClass "NurseryRowModel" = some m.cls := hown
  have hl : lv_has ls 6 [(0, .ref (b 0)), (1, .int x), (2, .int f), (3, .int y)] := hl
  refine lv_aload_n hx hb dMd_put_0 rfl (lv_at hl 0 rfl) ?_
  refine lv_iload_n hx hb dMd_put_1 rfl (lv_at hl 1 rfl) ?_
  refine lv_iload_n hx hb dMd_put_2 rfl (lv_at hl 2 rfl) ?_
  refine gx_callp (C := "NurseryRowModel") (As := [.int x, .int f]) (rest := []) E (qMd_place l D cI cZ b μ x f ko ho) (gx_cwV hts l_Md_107 k_Md_place ki_Md_place ke_Md_place z_Md n_Md_place ⟨by decide, by decide⟩) hK hP hD (va_recv hK hP (ci := 2) (q0 := 0) rfl rfl) hl.1 rfl rfl (Nat.le_of_ble_eq_true rfl) ⟨Nat.zero_le _, Nat.zero_le _⟩ dMd_put_3 ?_
  refine lv_istore (lv' := [(4, .int (wlM μ ko f)), (0, .ref (b 0)), (1, .int x), (2, .int f), (3, .int y)]) hx hb dMd_put_6 hl (by decide) rfl (fun ls hl => ?_)
  refine lv_aload_n hx hb dMd_put_8 rfl (lv_at hl 1 rfl) ?_
  refine lv_iload hx hb dMd_put_9 (lv_at hl 0 rfl) ?_
  refine lv_if_lt (tgt := 18) hx hb dMd_put_11 (by decide) (fun c_11 => ?_) (fun c_11 => ?_)
  · refine lv_iconst (v := 0) hx hb dMd_put_18 (by decide) ?_
    refine lv_iconst (v := 1) hx hb dMd_put_19 (by decide) ?_
    refine gx_calli (C := "NurseryRowModel") (As := [.int 0, .int 1]) (rest := []) E (qMd_goes l D cI cZ b μ 0 1) (gx_cwV hts l_Md_88 k_Md_goes ki_Md_goes ke_Md_goes z_Md n_Md_goes ⟨by decide, by decide⟩) hK hP hD hS hA (va_recv hK hP (ci := 2) (q0 := 0) rfl rfl) hl.1 rfl rfl (Nat.le_of_ble_eq_true rfl) ⟨by decide, by decide⟩ dMd_put_20 (fun r_1 u_2 H locs hq_3 hP hD hS => ?_)
    obtain ⟨hr1, hu1⟩ := hq_3
    have hr1 : r_1 = 0 := hr1
    have hu1 : u_2 = μ.sM 0 1 := hu1
    subst hr1; subst hu1
    refine lv_if_ne (tgt := 28) hx hb dMd_put_23 (by decide) (fun c_23 => ?_) (fun c_23 => ?_)
    · exact absurd c_23 (by decide)
    · refine lv_iconst (v := 0) hx hb dMd_put_26 (by decide) ?_
      exact gx_iret (u := μ.sM 0 1) E hK hP hD hS ⟨rfl, rfl⟩ dMd_put_27
  · exact (hno c_11).elim
set_option maxHeartbeats 4000000 in
set_option maxRecDepth 100000 in
/-- a word becomes y -/
theorem qMd_put_ok (l : Launch) (D : va_G) (cI cZ : ClassId) (b : Nat → Nat) (μ : mSt) (x f y ko : Int32) (kt : Nat) (ho : objR μ x ko) (hkt : kt < 24000) (hat : wlM μ ko f = nI kt) (hok : ¬ wlM μ ko f < 0) : gx_Mi l yMd_put (Cond.code yMd_put cMd_put 6 (some .int) :: gW) (gR 3) D gC (mdT cI cZ) (mdW cI cZ b) μ [.ref (b 0), .int x, .int f, .int y] (fun r u => r = μ.A 10 kt ∧ u = (μ.sM 0 0).sA 10 (upd (μ.A 10) kt y)) := by
  refine gx_Mi.of (cc := cMd_put) (maxL := 6) (ret := (some .int)) (by decide) rfl (Nat.le_of_ble_eq_true rfl) ?_
  intro p e s m args below meth c ls A E hA hK hP hD hS hl
  obtain ⟨hx, hb, hr, hml, hts, hown, hlocks, hnm⟩ := id E
  have hg : ∀ w ∈ gW, w.before args s = true := fun w h => hts w (List.mem_cons_of_mem _ h)
  have hown : s.vm.findClass "NurseryRowModel" = some m.cls := hown
  have hl : lv_has ls 6 [(0, .ref (b 0)), (1, .int x), (2, .int f), (3, .int y)] := hl
  refine lv_aload_n hx hb dMd_put_0 rfl (lv_at hl 0 rfl) ?_
  refine lv_iload_n hx hb dMd_put_1 rfl (lv_at hl 1 rfl) ?_
  refine lv_iload_n hx hb dMd_put_2 rfl (lv_at hl 2 rfl) ?_
  refine gx_callp (C := "NurseryRowModel") (As := [.int x, .int f]) (rest := []) E (qMd_place l D cI cZ b μ x f ko ho) (gx_cwV hts l_Md_107 k_Md_place ki_Md_place ke_Md_place z_Md n_Md_place ⟨by decide, by decide⟩) hK hP hD (va_recv hK hP (ci := 2) (q0 := 0) rfl rfl) hl.1 rfl rfl (Nat.le_of_ble_eq_true rfl) ⟨Nat.zero_le _, Nat.zero_le _⟩ dMd_put_3 ?_
  refine lv_istore (lv' := [(4, .int (wlM μ ko f)), (0, .ref (b 0)), (1, .int x), (2, .int f), (3, .int y)]) hx hb dMd_put_6 hl (by decide) rfl (fun ls hl => ?_)
  refine lv_aload_n hx hb dMd_put_8 rfl (lv_at hl 1 rfl) ?_
  refine lv_iload hx hb dMd_put_9 (lv_at hl 0 rfl) ?_
  refine lv_if_lt (tgt := 18) hx hb dMd_put_11 (by decide) (fun c_11 => ?_) (fun c_11 => ?_)
  · exact absurd c_11 hok
  · refine lv_iconst (v := 1) hx hb dMd_put_14 (by decide) ?_
    refine lv_goto (tgt := 19) hx hb dMd_put_15 (by decide) ?_
    refine lv_iconst (v := 1) hx hb dMd_put_19 (by decide) ?_
    refine gx_calli (C := "NurseryRowModel") (As := [.int 1, .int 1]) (rest := []) E (qMd_goes l D cI cZ b μ 1 1) (gx_cwV hts l_Md_88 k_Md_goes ki_Md_goes ke_Md_goes z_Md n_Md_goes ⟨by decide, by decide⟩) hK hP hD hS hA (va_recv hK hP (ci := 2) (q0 := 0) rfl rfl) hl.1 rfl rfl (Nat.le_of_ble_eq_true rfl) ⟨by decide, by decide⟩ dMd_put_20 (fun r_1 u_2 H locs hq_3 hP hD hS => ?_)
    obtain ⟨hr1, hu1⟩ := hq_3
    have hr1 : r_1 = 1 := hr1
    have hu1 : u_2 = μ.sM 0 0 := hu1
    subst hr1; subst hu1
    refine lv_if_ne (tgt := 28) hx hb dMd_put_23 (by decide) (fun c_23 => ?_) (fun c_23 => ?_)
    · refine lv_aload_n hx hb dMd_put_28 rfl (lv_at hl 1 rfl) ?_
      refine va_get (C := RMd) (T := TMd) (N := 25) (ci := 2) (v := .ref (b 11)) hx hb hg inMd hown hK hP 0 rfl rfl 14 (by decide) (hg _ f_Md_48) (fun _ h9 => h9) rfl dMd_put_29 ?_
      refine lv_iload hx hb dMd_put_32 (lv_at hl 0 rfl) ?_
      refine va_iald hx hb hK hP 11 0 rfl rfl (by rw [hat]; exact vp_in_nI hkt (by decide)) dMd_put_34 ?_
      refine gx_top (z := (μ.A 10) kt) (congrArg _ (by rw [hat]; exact nI_clamp (Nat.lt_trans hkt (by decide)))) ?_
      refine lv_istore (lv' := [(5, .int ((μ.A 10) kt)), (4, .int (wlM μ ko f)), (0, .ref (b 0)), (1, .int x), (2, .int f), (3, .int y)]) hx hb dMd_put_35 hl (by decide) rfl (fun ls hl => ?_)
      refine lv_aload_n hx hb dMd_put_37 rfl (lv_at hl 2 rfl) ?_
      refine va_get (C := RMd) (T := TMd) (N := 25) (ci := 2) (v := .ref (b 11)) hx hb hg inMd hown hK hP 0 rfl rfl 14 (by decide) (hg _ f_Md_48) (fun _ h9 => h9) rfl dMd_put_38 ?_
      refine lv_iload hx hb dMd_put_41 (lv_at hl 1 rfl) ?_
      refine lv_iload_n hx hb dMd_put_43 rfl (lv_at hl 5 rfl) ?_
      refine va_iast hx hb hK hP hD hS 11 0 rfl rfl (by rw [hat]; exact vp_in_nI hkt (by decide)) dMd_put_44 (fun H locs hP hD hS => ?_)
      rw [hat, nI_clamp (show kt < 2 ^ 31 from Nat.lt_trans hkt (by decide))] at hP hD
      rw [mdA_10] at hP hD
      refine lv_iload hx hb dMd_put_45 (lv_at hl 0 rfl) ?_
      exact gx_iret (u := (μ.sM 0 0).sA 10 (upd (μ.A 10) kt y)) E hK hP hD hS ⟨rfl, rfl⟩ dMd_put_47
    · exact absurd c_23 (by decide)
set_option maxHeartbeats 4000000 in
set_option maxRecDepth 100000 in
/-- a field becomes y (it throws) -/
theorem qMd_set_no (l : Launch) (D : va_G) (cI cZ : ClassId) (b : Nat → Nat) (μ : mSt) (x f y ko k2 : Int32) (ho : objR μ x ko) (ho2 : ¬ y = 0 → objR μ y k2) (hno : ¬ (¬ flM μ ko f < 0 ∧ (y = 0 ∨ ¬ k2 < 0))) : gx_Mi l yMd_set (Cond.code yMd_set cMd_set 7 (some .int) :: gW) (gR 3) D gC (mdT cI cZ) (mdW cI cZ b) μ [.ref (b 0), .int x, .int f, .int y] (fun r u => r = 0 ∧ u = μ.sM 0 1) := by
  refine gx_Mi.of (cc := cMd_set) (maxL := 7) (ret := (some .int)) (by decide) rfl (Nat.le_of_ble_eq_true rfl) ?_
  intro p e s m args below meth c ls A E hA hK hP hD hS hl
  obtain ⟨hx, hb, hr, hml, hts, hown, hlocks, hnm⟩ := id E
  have hg : ∀ w ∈ gW, w.before args s = true := fun w h => hts w (List.mem_cons_of_mem _ h)
  have hown : s.vm.findClass "NurseryRowModel" = some m.cls := hown
  have hl : lv_has ls 7 [(0, .ref (b 0)), (1, .int x), (2, .int f), (3, .int y)] := hl
  refine lv_aload_n hx hb dMd_set_0 rfl (lv_at hl 0 rfl) ?_
  refine lv_iload_n hx hb dMd_set_1 rfl (lv_at hl 1 rfl) ?_
  refine lv_iload_n hx hb dMd_set_2 rfl (lv_at hl 2 rfl) ?_
  refine gx_callp (C := "NurseryRowModel") (As := [.int x, .int f]) (rest := []) E (qMd_field l D cI cZ b μ x f ko ho) (gx_cwV hts l_Md_100 k_Md_field ki_Md_field ke_Md_field z_Md n_Md_field ⟨by decide, by decide⟩) hK hP hD (va_recv hK hP (ci := 2) (q0 := 0) rfl rfl) hl.1 rfl rfl (Nat.le_of_ble_eq_true rfl) ⟨Nat.zero_le _, Nat.zero_le _⟩ dMd_set_3 ?_
  refine lv_istore (lv' := [(4, .int (flM μ ko f)), (0, .ref (b 0)), (1, .int x), (2, .int f), (3, .int y)]) hx hb dMd_set_6 hl (by decide) rfl (fun ls hl => ?_)
  refine lv_iload_n hx hb dMd_set_8 rfl (lv_at hl 4 rfl) ?_
  refine lv_if_ne (tgt := 16) hx hb dMd_set_9 (by decide) (fun c_9 => ?_) (fun c_9 => ?_)
  · refine lv_aload_n hx hb dMd_set_16 rfl (lv_at hl 1 rfl) ?_
    refine lv_iload_n hx hb dMd_set_17 rfl (lv_at hl 4 rfl) ?_
    refine gx_callp (C := "NurseryRowModel") (As := [.int y]) (rest := []) E (qMd_object l D cI cZ b μ y k2 (ho2 c_9)) (gx_cwV hts l_Md_96 k_Md_object ki_Md_object ke_Md_object z_Md n_Md_object ⟨by decide, by decide⟩) hK hP hD (va_recv hK hP (ci := 2) (q0 := 0) rfl rfl) hl.1 rfl rfl (Nat.le_of_ble_eq_true rfl) ⟨Nat.zero_le _, Nat.zero_le _⟩ dMd_set_18 ?_
    refine lv_istore (lv' := [(5, .int k2), (4, .int (flM μ ko f)), (0, .ref (b 0)), (1, .int x), (2, .int f), (3, .int y)]) hx hb dMd_set_21 hl (by decide) rfl (fun ls hl => ?_)
    refine lv_aload_n hx hb dMd_set_23 rfl (lv_at hl 2 rfl) ?_
    refine lv_iload hx hb dMd_set_24 (lv_at hl 1 rfl) ?_
    refine lv_if_lt (tgt := 42) hx hb dMd_set_26 (by decide) (fun c_26 => ?_) (fun c_26 => ?_)
    · refine lv_iconst (v := 0) hx hb dMd_set_42 (by decide) ?_
      refine lv_iconst (v := 1) hx hb dMd_set_43 (by decide) ?_
      refine gx_calli (C := "NurseryRowModel") (As := [.int 0, .int 1]) (rest := []) E (qMd_goes l D cI cZ b μ 0 1) (gx_cwV hts l_Md_88 k_Md_goes ki_Md_goes ke_Md_goes z_Md n_Md_goes ⟨by decide, by decide⟩) hK hP hD hS hA (va_recv hK hP (ci := 2) (q0 := 0) rfl rfl) hl.1 rfl rfl (Nat.le_of_ble_eq_true rfl) ⟨by decide, by decide⟩ dMd_set_44 (fun r_1 u_2 H locs hq_3 hP hD hS => ?_)
      obtain ⟨hr1, hu1⟩ := hq_3
      have hr1 : r_1 = 0 := hr1
      have hu1 : u_2 = μ.sM 0 1 := hu1
      subst hr1; subst hu1
      refine lv_if_ne (tgt := 52) hx hb dMd_set_47 (by decide) (fun c_47 => ?_) (fun c_47 => ?_)
      · exact absurd c_47 (by decide)
      · refine lv_iconst (v := 0) hx hb dMd_set_50 (by decide) ?_
        exact gx_iret (u := μ.sM 0 1) E hK hP hD hS ⟨rfl, rfl⟩ dMd_set_51
    · refine lv_iload_n hx hb dMd_set_29 rfl (lv_at hl 5 rfl) ?_
      refine lv_if_eq (tgt := 38) hx hb dMd_set_30 (by decide) (fun c_30 => ?_) (fun c_30 => ?_)
      · exact absurd c_30 c_9
      · refine lv_iload hx hb dMd_set_33 (lv_at hl 0 rfl) ?_
        refine lv_if_lt (tgt := 42) hx hb dMd_set_35 (by decide) (fun c_35 => ?_) (fun c_35 => ?_)
        · refine lv_iconst (v := 0) hx hb dMd_set_42 (by decide) ?_
          refine lv_iconst (v := 1) hx hb dMd_set_43 (by decide) ?_
          refine gx_calli (C := "NurseryRowModel") (As := [.int 0, .int 1]) (rest := []) E (qMd_goes l D cI cZ b μ 0 1) (gx_cwV hts l_Md_88 k_Md_goes ki_Md_goes ke_Md_goes z_Md n_Md_goes ⟨by decide, by decide⟩) hK hP hD hS hA (va_recv hK hP (ci := 2) (q0 := 0) rfl rfl) hl.1 rfl rfl (Nat.le_of_ble_eq_true rfl) ⟨by decide, by decide⟩ dMd_set_44 (fun r_4 u_5 H locs hq_6 hP hD hS => ?_)
          obtain ⟨hr1, hu1⟩ := hq_6
          have hr1 : r_4 = 0 := hr1
          have hu1 : u_5 = μ.sM 0 1 := hu1
          subst hr1; subst hu1
          refine lv_if_ne (tgt := 52) hx hb dMd_set_47 (by decide) (fun c_47 => ?_) (fun c_47 => ?_)
          · exact absurd c_47 (by decide)
          · refine lv_iconst (v := 0) hx hb dMd_set_50 (by decide) ?_
            exact gx_iret (u := μ.sM 0 1) E hK hP hD hS ⟨rfl, rfl⟩ dMd_set_51
        · exact (hno ⟨c_26, Or.inr c_35⟩).elim
  · refine lv_iconst (v := (-1)) hx hb dMd_set_12 (by decide) ?_
    refine lv_goto (tgt := 21) hx hb dMd_set_13 (by decide) ?_
    refine lv_istore (lv' := [(5, .int (-1)), (4, .int (flM μ ko f)), (0, .ref (b 0)), (1, .int x), (2, .int f), (3, .int y)]) hx hb dMd_set_21 hl (by decide) rfl (fun ls hl => ?_)
    refine lv_aload_n hx hb dMd_set_23 rfl (lv_at hl 2 rfl) ?_
    refine lv_iload hx hb dMd_set_24 (lv_at hl 1 rfl) ?_
    refine lv_if_lt (tgt := 42) hx hb dMd_set_26 (by decide) (fun c_26 => ?_) (fun c_26 => ?_)
    · refine lv_iconst (v := 0) hx hb dMd_set_42 (by decide) ?_
      refine lv_iconst (v := 1) hx hb dMd_set_43 (by decide) ?_
      refine gx_calli (C := "NurseryRowModel") (As := [.int 0, .int 1]) (rest := []) E (qMd_goes l D cI cZ b μ 0 1) (gx_cwV hts l_Md_88 k_Md_goes ki_Md_goes ke_Md_goes z_Md n_Md_goes ⟨by decide, by decide⟩) hK hP hD hS hA (va_recv hK hP (ci := 2) (q0 := 0) rfl rfl) hl.1 rfl rfl (Nat.le_of_ble_eq_true rfl) ⟨by decide, by decide⟩ dMd_set_44 (fun r_7 u_8 H locs hq_9 hP hD hS => ?_)
      obtain ⟨hr1, hu1⟩ := hq_9
      have hr1 : r_7 = 0 := hr1
      have hu1 : u_8 = μ.sM 0 1 := hu1
      subst hr1; subst hu1
      refine lv_if_ne (tgt := 52) hx hb dMd_set_47 (by decide) (fun c_47 => ?_) (fun c_47 => ?_)
      · exact absurd c_47 (by decide)
      · refine lv_iconst (v := 0) hx hb dMd_set_50 (by decide) ?_
        exact gx_iret (u := μ.sM 0 1) E hK hP hD hS ⟨rfl, rfl⟩ dMd_set_51
    · refine lv_iload_n hx hb dMd_set_29 rfl (lv_at hl 5 rfl) ?_
      refine lv_if_eq (tgt := 38) hx hb dMd_set_30 (by decide) (fun c_30 => ?_) (fun c_30 => ?_)
      · exact (hno ⟨c_26, Or.inl c_30⟩).elim
      · exact absurd c_30 (not_not_intro c_9)
set_option maxHeartbeats 4000000 in
set_option maxRecDepth 100000 in
/-- a field becomes y -/
theorem qMd_set_ok (l : Launch) (D : va_G) (cI cZ : ClassId) (b : Nat → Nat) (μ : mSt) (x f y ko k2 : Int32) (kt : Nat) (ho : objR μ x ko) (ho2 : ¬ y = 0 → objR μ y k2) (hkt : kt < 24000) (hat : flM μ ko f = nI kt) (hv : toOk (μ.A 10 kt)) (hok : ¬ flM μ ko f < 0 ∧ (y = 0 ∨ ¬ k2 < 0)) : gx_Mi l yMd_set (Cond.code yMd_set cMd_set 7 (some .int) :: gW) (gR 3) D gC (mdT cI cZ) (mdW cI cZ b) μ [.ref (b 0), .int x, .int f, .int y] (fun r u => r = toM ((μ.sM 0 0).sA 10 (upd (μ.A 10) kt (if y = 0 then 0 else k2 + 1))) (μ.A 10 kt) ∧ u = (μ.sM 0 0).sA 10 (upd (μ.A 10) kt (if y = 0 then 0 else k2 + 1))) := by
  refine gx_Mi.of (cc := cMd_set) (maxL := 7) (ret := (some .int)) (by decide) rfl (Nat.le_of_ble_eq_true rfl) ?_
  intro p e s m args below meth c ls A E hA hK hP hD hS hl
  obtain ⟨hx, hb, hr, hml, hts, hown, hlocks, hnm⟩ := id E
  have hg : ∀ w ∈ gW, w.before args s = true := fun w h => hts w (List.mem_cons_of_mem _ h)
  have hown : s.vm.findClass "NurseryRowModel" = some m.cls := hown
  have hl : lv_has ls 7 [(0, .ref (b 0)), (1, .int x), (2, .int f), (3, .int y)] := hl
  refine lv_aload_n hx hb dMd_set_0 rfl (lv_at hl 0 rfl) ?_
  refine lv_iload_n hx hb dMd_set_1 rfl (lv_at hl 1 rfl) ?_
  refine lv_iload_n hx hb dMd_set_2 rfl (lv_at hl 2 rfl) ?_
  refine gx_callp (C := "NurseryRowModel") (As := [.int x, .int f]) (rest := []) E (qMd_field l D cI cZ b μ x f ko ho) (gx_cwV hts l_Md_100 k_Md_field ki_Md_field ke_Md_field z_Md n_Md_field ⟨by decide, by decide⟩) hK hP hD (va_recv hK hP (ci := 2) (q0 := 0) rfl rfl) hl.1 rfl rfl (Nat.le_of_ble_eq_true rfl) ⟨Nat.zero_le _, Nat.zero_le _⟩ dMd_set_3 ?_
  refine lv_istore (lv' := [(4, .int (flM μ ko f)), (0, .ref (b 0)), (1, .int x), (2, .int f), (3, .int y)]) hx hb dMd_set_6 hl (by decide) rfl (fun ls hl => ?_)
  refine lv_iload_n hx hb dMd_set_8 rfl (lv_at hl 4 rfl) ?_
  refine lv_if_ne (tgt := 16) hx hb dMd_set_9 (by decide) (fun c_9 => ?_) (fun c_9 => ?_)
  · refine lv_aload_n hx hb dMd_set_16 rfl (lv_at hl 1 rfl) ?_
    refine lv_iload_n hx hb dMd_set_17 rfl (lv_at hl 4 rfl) ?_
    refine gx_callp (C := "NurseryRowModel") (As := [.int y]) (rest := []) E (qMd_object l D cI cZ b μ y k2 (ho2 c_9)) (gx_cwV hts l_Md_96 k_Md_object ki_Md_object ke_Md_object z_Md n_Md_object ⟨by decide, by decide⟩) hK hP hD (va_recv hK hP (ci := 2) (q0 := 0) rfl rfl) hl.1 rfl rfl (Nat.le_of_ble_eq_true rfl) ⟨Nat.zero_le _, Nat.zero_le _⟩ dMd_set_18 ?_
    refine lv_istore (lv' := [(5, .int k2), (4, .int (flM μ ko f)), (0, .ref (b 0)), (1, .int x), (2, .int f), (3, .int y)]) hx hb dMd_set_21 hl (by decide) rfl (fun ls hl => ?_)
    refine lv_aload_n hx hb dMd_set_23 rfl (lv_at hl 2 rfl) ?_
    refine lv_iload hx hb dMd_set_24 (lv_at hl 1 rfl) ?_
    refine lv_if_lt (tgt := 42) hx hb dMd_set_26 (by decide) (fun c_26 => ?_) (fun c_26 => ?_)
    · exact absurd c_26 hok.1
    · refine lv_iload_n hx hb dMd_set_29 rfl (lv_at hl 5 rfl) ?_
      refine lv_if_eq (tgt := 38) hx hb dMd_set_30 (by decide) (fun c_30 => ?_) (fun c_30 => ?_)
      · exact absurd c_30 c_9
      · refine lv_iload hx hb dMd_set_33 (lv_at hl 0 rfl) ?_
        refine lv_if_lt (tgt := 42) hx hb dMd_set_35 (by decide) (fun c_35 => ?_) (fun c_35 => ?_)
        · exact absurd c_35 (hok.2.resolve_left c_30)
        · refine lv_iconst (v := 1) hx hb dMd_set_38 (by decide) ?_
          refine lv_goto (tgt := 43) hx hb dMd_set_39 (by decide) ?_
          refine lv_iconst (v := 1) hx hb dMd_set_43 (by decide) ?_
          refine gx_calli (C := "NurseryRowModel") (As := [.int 1, .int 1]) (rest := []) E (qMd_goes l D cI cZ b μ 1 1) (gx_cwV hts l_Md_88 k_Md_goes ki_Md_goes ke_Md_goes z_Md n_Md_goes ⟨by decide, by decide⟩) hK hP hD hS hA (va_recv hK hP (ci := 2) (q0 := 0) rfl rfl) hl.1 rfl rfl (Nat.le_of_ble_eq_true rfl) ⟨by decide, by decide⟩ dMd_set_44 (fun r_1 u_2 H locs hq_3 hP hD hS => ?_)
          obtain ⟨hr1, hu1⟩ := hq_3
          have hr1 : r_1 = 1 := hr1
          have hu1 : u_2 = μ.sM 0 0 := hu1
          subst hr1; subst hu1
          refine lv_if_ne (tgt := 52) hx hb dMd_set_47 (by decide) (fun c_47 => ?_) (fun c_47 => ?_)
          · refine lv_aload_n hx hb dMd_set_52 rfl (lv_at hl 2 rfl) ?_
            refine va_get (C := RMd) (T := TMd) (N := 25) (ci := 2) (v := .ref (b 11)) hx hb hg inMd hown hK hP 0 rfl rfl 14 (by decide) (hg _ f_Md_48) (fun _ h9 => h9) rfl dMd_set_53 ?_
            refine lv_iload hx hb dMd_set_56 (lv_at hl 1 rfl) ?_
            refine va_iald hx hb hK hP 11 0 rfl rfl (by rw [hat]; exact vp_in_nI hkt (by decide)) dMd_set_58 ?_
            refine gx_top (z := (μ.A 10) kt) (congrArg _ (by rw [hat]; exact nI_clamp (Nat.lt_trans hkt (by decide)))) ?_
            refine lv_istore (lv' := [(6, .int ((μ.A 10) kt)), (5, .int k2), (4, .int (flM μ ko f)), (0, .ref (b 0)), (1, .int x), (2, .int f), (3, .int y)]) hx hb dMd_set_59 hl (by decide) rfl (fun ls hl => ?_)
            refine lv_aload_n hx hb dMd_set_61 rfl (lv_at hl 3 rfl) ?_
            refine va_get (C := RMd) (T := TMd) (N := 25) (ci := 2) (v := .ref (b 11)) hx hb hg inMd hown hK hP 0 rfl rfl 14 (by decide) (hg _ f_Md_48) (fun _ h9 => h9) rfl dMd_set_62 ?_
            refine lv_iload hx hb dMd_set_65 (lv_at hl 2 rfl) ?_
            refine lv_iload hx hb dMd_set_67 (lv_at hl 1 rfl) ?_
            refine lv_iconst (v := 1) hx hb dMd_set_69 (by decide) ?_
            refine lv_iadd hx hb dMd_set_70 ?_
            refine va_iast hx hb hK hP hD hS 11 0 rfl rfl (by rw [hat]; exact vp_in_nI hkt (by decide)) dMd_set_71 (fun H locs hP hD hS => ?_)
            rw [hat, nI_clamp (show kt < 2 ^ 31 from Nat.lt_trans hkt (by decide))] at hP hD
            rw [mdA_10] at hP hD
            refine lv_aload_n hx hb dMd_set_72 rfl (lv_at hl 3 rfl) ?_
            refine lv_iload hx hb dMd_set_73 (lv_at hl 0 rfl) ?_
            refine gx_callp (C := "NurseryRowModel") (As := [.int ((μ.A 10) kt)]) (rest := []) E (qMd_told l D cI cZ b ((μ.sM 0 0).sA 10 (upd (μ.A 10) kt (k2 + 1))) ((μ.A 10) kt) hv) (gx_cwV hts l_Md_104 k_Md_told ki_Md_told ke_Md_told z_Md n_Md_told ⟨by decide, by decide⟩) hK hP hD (va_recv hK hP (ci := 2) (q0 := 0) rfl rfl) hl.1 rfl rfl (Nat.le_of_ble_eq_true rfl) ⟨Nat.zero_le _, Nat.zero_le _⟩ dMd_set_75 ?_
            exact gx_iret (u := (μ.sM 0 0).sA 10 (upd (μ.A 10) kt (k2 + 1))) E hK hP hD hS ⟨by simp only [if_neg c_9], by simp only [if_neg c_9]⟩ dMd_set_78
          · exact absurd c_47 (by decide)
  · refine lv_iconst (v := (-1)) hx hb dMd_set_12 (by decide) ?_
    refine lv_goto (tgt := 21) hx hb dMd_set_13 (by decide) ?_
    refine lv_istore (lv' := [(5, .int (-1)), (4, .int (flM μ ko f)), (0, .ref (b 0)), (1, .int x), (2, .int f), (3, .int y)]) hx hb dMd_set_21 hl (by decide) rfl (fun ls hl => ?_)
    refine lv_aload_n hx hb dMd_set_23 rfl (lv_at hl 2 rfl) ?_
    refine lv_iload hx hb dMd_set_24 (lv_at hl 1 rfl) ?_
    refine lv_if_lt (tgt := 42) hx hb dMd_set_26 (by decide) (fun c_26 => ?_) (fun c_26 => ?_)
    · exact absurd c_26 hok.1
    · refine lv_iload_n hx hb dMd_set_29 rfl (lv_at hl 5 rfl) ?_
      refine lv_if_eq (tgt := 38) hx hb dMd_set_30 (by decide) (fun c_30 => ?_) (fun c_30 => ?_)
      · refine lv_iconst (v := 1) hx hb dMd_set_38 (by decide) ?_
        refine lv_goto (tgt := 43) hx hb dMd_set_39 (by decide) ?_
        refine lv_iconst (v := 1) hx hb dMd_set_43 (by decide) ?_
        refine gx_calli (C := "NurseryRowModel") (As := [.int 1, .int 1]) (rest := []) E (qMd_goes l D cI cZ b μ 1 1) (gx_cwV hts l_Md_88 k_Md_goes ki_Md_goes ke_Md_goes z_Md n_Md_goes ⟨by decide, by decide⟩) hK hP hD hS hA (va_recv hK hP (ci := 2) (q0 := 0) rfl rfl) hl.1 rfl rfl (Nat.le_of_ble_eq_true rfl) ⟨by decide, by decide⟩ dMd_set_44 (fun r_4 u_5 H locs hq_6 hP hD hS => ?_)
        obtain ⟨hr1, hu1⟩ := hq_6
        have hr1 : r_4 = 1 := hr1
        have hu1 : u_5 = μ.sM 0 0 := hu1
        subst hr1; subst hu1
        refine lv_if_ne (tgt := 52) hx hb dMd_set_47 (by decide) (fun c_47 => ?_) (fun c_47 => ?_)
        · refine lv_aload_n hx hb dMd_set_52 rfl (lv_at hl 2 rfl) ?_
          refine va_get (C := RMd) (T := TMd) (N := 25) (ci := 2) (v := .ref (b 11)) hx hb hg inMd hown hK hP 0 rfl rfl 14 (by decide) (hg _ f_Md_48) (fun _ h9 => h9) rfl dMd_set_53 ?_
          refine lv_iload hx hb dMd_set_56 (lv_at hl 1 rfl) ?_
          refine va_iald hx hb hK hP 11 0 rfl rfl (by rw [hat]; exact vp_in_nI hkt (by decide)) dMd_set_58 ?_
          refine gx_top (z := (μ.A 10) kt) (congrArg _ (by rw [hat]; exact nI_clamp (Nat.lt_trans hkt (by decide)))) ?_
          refine lv_istore (lv' := [(6, .int ((μ.A 10) kt)), (5, .int (-1)), (4, .int (flM μ ko f)), (0, .ref (b 0)), (1, .int x), (2, .int f), (3, .int y)]) hx hb dMd_set_59 hl (by decide) rfl (fun ls hl => ?_)
          refine lv_aload_n hx hb dMd_set_61 rfl (lv_at hl 3 rfl) ?_
          refine va_get (C := RMd) (T := TMd) (N := 25) (ci := 2) (v := .ref (b 11)) hx hb hg inMd hown hK hP 0 rfl rfl 14 (by decide) (hg _ f_Md_48) (fun _ h9 => h9) rfl dMd_set_62 ?_
          refine lv_iload hx hb dMd_set_65 (lv_at hl 2 rfl) ?_
          refine lv_iload hx hb dMd_set_67 (lv_at hl 1 rfl) ?_
          refine lv_iconst (v := 1) hx hb dMd_set_69 (by decide) ?_
          refine lv_iadd hx hb dMd_set_70 ?_
          refine gx_top (z := 0) (by decide) ?_
          refine va_iast hx hb hK hP hD hS 11 0 rfl rfl (by rw [hat]; exact vp_in_nI hkt (by decide)) dMd_set_71 (fun H locs hP hD hS => ?_)
          rw [hat, nI_clamp (show kt < 2 ^ 31 from Nat.lt_trans hkt (by decide))] at hP hD
          rw [mdA_10] at hP hD
          refine lv_aload_n hx hb dMd_set_72 rfl (lv_at hl 3 rfl) ?_
          refine lv_iload hx hb dMd_set_73 (lv_at hl 0 rfl) ?_
          refine gx_callp (C := "NurseryRowModel") (As := [.int ((μ.A 10) kt)]) (rest := []) E (qMd_told l D cI cZ b ((μ.sM 0 0).sA 10 (upd (μ.A 10) kt 0)) ((μ.A 10) kt) hv) (gx_cwV hts l_Md_104 k_Md_told ki_Md_told ke_Md_told z_Md n_Md_told ⟨by decide, by decide⟩) hK hP hD (va_recv hK hP (ci := 2) (q0 := 0) rfl rfl) hl.1 rfl rfl (Nat.le_of_ble_eq_true rfl) ⟨Nat.zero_le _, Nat.zero_le _⟩ dMd_set_75 ?_
          exact gx_iret (u := (μ.sM 0 0).sA 10 (upd (μ.A 10) kt 0)) E hK hP hD hS ⟨by simp only [if_pos c_9], by simp only [if_pos c_9]⟩ dMd_set_78
        · exact absurd c_47 (by decide)
      · exact absurd c_30 (not_not_intro c_9)
