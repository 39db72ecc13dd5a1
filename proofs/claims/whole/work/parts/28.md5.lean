/-! THE REFERENCE: make, find -/
theorem mdL_a (cI cZ : ClassId) (b : Nat → Nat) (μ : mSt) (f g : Nat → Int32) (v w : Int32) : mdW cI cZ b ((((μ.sA 10 f).sM 3 v).sA 10 g).sM 3 w) = mdW cI cZ b ((μ.sA 10 g).sM 3 w) := rfl
theorem mdL_c (μ : mSt) (f : Nat → Int32) (v : Int32) : ((μ.sA 10 f).sM 3 v).A 10 = f := rfl
theorem mdL_b (cI cZ : ClassId) (b : Nat → Nat) (μ : mSt) : mdW cI cZ b ((μ.sA 10 (μ.A 10)).sM 3 (μ.M 3)) = mdW cI cZ b μ := rfl
set_option maxHeartbeats 4000000 in
set_option maxRecDepth 100000 in
/-- a new object (it throws) -/
theorem qMd_make_no (l : Launch) (D : va_G) (cI cZ : ClassId) (b : Nat → Nat) (μ : mSt) (x : Int32) (y : Int32) (hno : ¬ (¬ x < 0 ∧ ¬ 200 < x ∧ ¬ y < 0 ∧ ¬ 200 < y)) : gx_Mi l yMd_make (Cond.code yMd_make cMd_make 6 (some .int) :: gW) (gR 3) D gC (mdT cI cZ) (mdW cI cZ b) μ [.ref (b 0), .int x, .int y] (fun r u => r = 0 ∧ u = μ.sM 0 1) := by
  refine gx_Mi.of (cc := cMd_make) (maxL := 6) (ret := (some .int)) (by decide) rfl (Nat.le_of_ble_eq_true rfl) ?_
  intro p e s m args below meth c ls A E hA hK hP hD hS hl
  obtain ⟨hx, hb, hr, hml, hts, hown, hlocks, hnm⟩ := id E
  have hg : ∀ w ∈ gW, w.before args s = true := fun w h => hts w (List.mem_cons_of_mem _ h)
  have hown : s.vm.findClass "NurseryRowModel" = some m.cls := hown
  have hl : lv_has ls 6 [(0, .ref (b 0)), (1, .int x), (2, .int y)] := hl
  refine lv_aload_n hx hb dMd_make_0 rfl (lv_at hl 0 rfl) ?_
  refine lv_iload_n hx hb dMd_make_1 rfl (lv_at hl 1 rfl) ?_
  refine lv_if_lt (tgt := 27) hx hb dMd_make_2 (by decide) (fun c_2 => ?_) (fun c_2 => ?_)
  · refine lv_iconst (v := 0) hx hb dMd_make_27 (by decide) ?_
    refine lv_iconst (v := 1) hx hb dMd_make_28 (by decide) ?_
    refine gx_calli (C := "NurseryRowModel") (As := [.int 0, .int 1]) (rest := []) E (qMd_goes l D cI cZ b μ 0 1) (gx_cwV hts l_Md_88 k_Md_goes ki_Md_goes ke_Md_goes z_Md n_Md_goes ⟨by decide, by decide⟩) hK hP hD hS hA (va_recv hK hP (ci := 2) (q0 := 0) rfl rfl) hl.1 rfl rfl (Nat.le_of_ble_eq_true rfl) ⟨by decide, by decide⟩ dMd_make_29 (fun r_1 u_2 H locs hq_3 hP hD hS => ?_)
    obtain ⟨hr1, hu1⟩ := hq_3
    have hr1 : r_1 = 0 := hr1
    have hu1 : u_2 = μ.sM 0 1 := hu1
    subst hr1; subst hu1
    refine lv_if_ne (tgt := 37) hx hb dMd_make_32 (by decide) (fun c_32 => ?_) (fun c_32 => ?_)
    · exact absurd c_32 (by decide)
    · refine lv_iconst (v := 0) hx hb dMd_make_35 (by decide) ?_
      exact gx_iret (u := μ.sM 0 1) E hK hP hD hS ⟨rfl, rfl⟩ dMd_make_36
  · refine lv_iload_n hx hb dMd_make_5 rfl (lv_at hl 1 rfl) ?_
    refine lv_sipush (v := 200) hx hb dMd_make_6 (by decide) ?_
    refine lv_icmp_gt (tgt := 27) hx hb dMd_make_9 (by decide) (fun c_9 => ?_) (fun c_9 => ?_)
    · refine lv_iconst (v := 0) hx hb dMd_make_27 (by decide) ?_
      refine lv_iconst (v := 1) hx hb dMd_make_28 (by decide) ?_
      refine gx_calli (C := "NurseryRowModel") (As := [.int 0, .int 1]) (rest := []) E (qMd_goes l D cI cZ b μ 0 1) (gx_cwV hts l_Md_88 k_Md_goes ki_Md_goes ke_Md_goes z_Md n_Md_goes ⟨by decide, by decide⟩) hK hP hD hS hA (va_recv hK hP (ci := 2) (q0 := 0) rfl rfl) hl.1 rfl rfl (Nat.le_of_ble_eq_true rfl) ⟨by decide, by decide⟩ dMd_make_29 (fun r_4 u_5 H locs hq_6 hP hD hS => ?_)
      obtain ⟨hr1, hu1⟩ := hq_6
      have hr1 : r_4 = 0 := hr1
      have hu1 : u_5 = μ.sM 0 1 := hu1
      subst hr1; subst hu1
      refine lv_if_ne (tgt := 37) hx hb dMd_make_32 (by decide) (fun c_32 => ?_) (fun c_32 => ?_)
      · exact absurd c_32 (by decide)
      · refine lv_iconst (v := 0) hx hb dMd_make_35 (by decide) ?_
        exact gx_iret (u := μ.sM 0 1) E hK hP hD hS ⟨rfl, rfl⟩ dMd_make_36
    · refine lv_iload_n hx hb dMd_make_12 rfl (lv_at hl 2 rfl) ?_
      refine lv_if_lt (tgt := 27) hx hb dMd_make_13 (by decide) (fun c_13 => ?_) (fun c_13 => ?_)
      · refine lv_iconst (v := 0) hx hb dMd_make_27 (by decide) ?_
        refine lv_iconst (v := 1) hx hb dMd_make_28 (by decide) ?_
        refine gx_calli (C := "NurseryRowModel") (As := [.int 0, .int 1]) (rest := []) E (qMd_goes l D cI cZ b μ 0 1) (gx_cwV hts l_Md_88 k_Md_goes ki_Md_goes ke_Md_goes z_Md n_Md_goes ⟨by decide, by decide⟩) hK hP hD hS hA (va_recv hK hP (ci := 2) (q0 := 0) rfl rfl) hl.1 rfl rfl (Nat.le_of_ble_eq_true rfl) ⟨by decide, by decide⟩ dMd_make_29 (fun r_7 u_8 H locs hq_9 hP hD hS => ?_)
        obtain ⟨hr1, hu1⟩ := hq_9
        have hr1 : r_7 = 0 := hr1
        have hu1 : u_8 = μ.sM 0 1 := hu1
        subst hr1; subst hu1
        refine lv_if_ne (tgt := 37) hx hb dMd_make_32 (by decide) (fun c_32 => ?_) (fun c_32 => ?_)
        · exact absurd c_32 (by decide)
        · refine lv_iconst (v := 0) hx hb dMd_make_35 (by decide) ?_
          exact gx_iret (u := μ.sM 0 1) E hK hP hD hS ⟨rfl, rfl⟩ dMd_make_36
      · refine lv_iload_n hx hb dMd_make_16 rfl (lv_at hl 2 rfl) ?_
        refine lv_sipush (v := 200) hx hb dMd_make_17 (by decide) ?_
        refine lv_icmp_gt (tgt := 27) hx hb dMd_make_20 (by decide) (fun c_20 => ?_) (fun c_20 => ?_)
        · refine lv_iconst (v := 0) hx hb dMd_make_27 (by decide) ?_
          refine lv_iconst (v := 1) hx hb dMd_make_28 (by decide) ?_
          refine gx_calli (C := "NurseryRowModel") (As := [.int 0, .int 1]) (rest := []) E (qMd_goes l D cI cZ b μ 0 1) (gx_cwV hts l_Md_88 k_Md_goes ki_Md_goes ke_Md_goes z_Md n_Md_goes ⟨by decide, by decide⟩) hK hP hD hS hA (va_recv hK hP (ci := 2) (q0 := 0) rfl rfl) hl.1 rfl rfl (Nat.le_of_ble_eq_true rfl) ⟨by decide, by decide⟩ dMd_make_29 (fun r_10 u_11 H locs hq_12 hP hD hS => ?_)
          obtain ⟨hr1, hu1⟩ := hq_12
          have hr1 : r_10 = 0 := hr1
          have hu1 : u_11 = μ.sM 0 1 := hu1
          subst hr1; subst hu1
          refine lv_if_ne (tgt := 37) hx hb dMd_make_32 (by decide) (fun c_32 => ?_) (fun c_32 => ?_)
          · exact absurd c_32 (by decide)
          · refine lv_iconst (v := 0) hx hb dMd_make_35 (by decide) ?_
            exact gx_iret (u := μ.sM 0 1) E hK hP hD hS ⟨rfl, rfl⟩ dMd_make_36
        · exact (hno ⟨c_2, c_9, c_13, c_20⟩).elim
set_option maxHeartbeats 4000000 in
set_option maxRecDepth 100000 in
/-- no room -/
theorem qMd_make_full (l : Launch) (D : va_G) (cI cZ : ClassId) (b : Nat → Nat) (μ : mSt) (x : Int32) (y : Int32) (hful : ¬ μ.A 2 0 + (3 + x + y) ≤ μ.A 0 0 + μ.A 1 0) (hok : ¬ x < 0 ∧ ¬ 200 < x ∧ ¬ y < 0 ∧ ¬ 200 < y) : gx_Mi l yMd_make (Cond.code yMd_make cMd_make 6 (some .int) :: gW) (gR 3) D gC (mdT cI cZ) (mdW cI cZ b) μ [.ref (b 0), .int x, .int y] (fun r u => r = 0 ∧ u = μ.sM 0 0) := by
  refine gx_Mi.of (cc := cMd_make) (maxL := 6) (ret := (some .int)) (by decide) rfl (Nat.le_of_ble_eq_true rfl) ?_
  intro p e s m args below meth c ls A E hA hK hP hD hS hl
  obtain ⟨hx, hb, hr, hml, hts, hown, hlocks, hnm⟩ := id E
  have hg : ∀ w ∈ gW, w.before args s = true := fun w h => hts w (List.mem_cons_of_mem _ h)
  have hown : s.vm.findClass "NurseryRowModel" = some m.cls := hown
  have hl : lv_has ls 6 [(0, .ref (b 0)), (1, .int x), (2, .int y)] := hl
  refine lv_aload_n hx hb dMd_make_0 rfl (lv_at hl 0 rfl) ?_
  refine lv_iload_n hx hb dMd_make_1 rfl (lv_at hl 1 rfl) ?_
  refine lv_if_lt (tgt := 27) hx hb dMd_make_2 (by decide) (fun c_2 => ?_) (fun c_2 => ?_)
  · exact absurd c_2 hok.1
  · refine lv_iload_n hx hb dMd_make_5 rfl (lv_at hl 1 rfl) ?_
    refine lv_sipush (v := 200) hx hb dMd_make_6 (by decide) ?_
    refine lv_icmp_gt (tgt := 27) hx hb dMd_make_9 (by decide) (fun c_9 => ?_) (fun c_9 => ?_)
    · exact absurd c_9 hok.2.1
    · refine lv_iload_n hx hb dMd_make_12 rfl (lv_at hl 2 rfl) ?_
      refine lv_if_lt (tgt := 27) hx hb dMd_make_13 (by decide) (fun c_13 => ?_) (fun c_13 => ?_)
      · exact absurd c_13 hok.2.2.1
      · refine lv_iload_n hx hb dMd_make_16 rfl (lv_at hl 2 rfl) ?_
        refine lv_sipush (v := 200) hx hb dMd_make_17 (by decide) ?_
        refine lv_icmp_gt (tgt := 27) hx hb dMd_make_20 (by decide) (fun c_20 => ?_) (fun c_20 => ?_)
        · exact absurd c_20 hok.2.2.2
        · refine lv_iconst (v := 1) hx hb dMd_make_23 (by decide) ?_
          refine lv_goto (tgt := 28) hx hb dMd_make_24 (by decide) ?_
          refine lv_iconst (v := 1) hx hb dMd_make_28 (by decide) ?_
          refine gx_calli (C := "NurseryRowModel") (As := [.int 1, .int 1]) (rest := []) E (qMd_goes l D cI cZ b μ 1 1) (gx_cwV hts l_Md_88 k_Md_goes ki_Md_goes ke_Md_goes z_Md n_Md_goes ⟨by decide, by decide⟩) hK hP hD hS hA (va_recv hK hP (ci := 2) (q0 := 0) rfl rfl) hl.1 rfl rfl (Nat.le_of_ble_eq_true rfl) ⟨by decide, by decide⟩ dMd_make_29 (fun r_1 u_2 H locs hq_3 hP hD hS => ?_)
          obtain ⟨hr1, hu1⟩ := hq_3
          have hr1 : r_1 = 1 := hr1
          have hu1 : u_2 = μ.sM 0 0 := hu1
          subst hr1; subst hu1
          refine lv_if_ne (tgt := 37) hx hb dMd_make_32 (by decide) (fun c_32 => ?_) (fun c_32 => ?_)
          · refine lv_iconst (v := 3) hx hb dMd_make_37 (by decide) ?_
            refine lv_iload_n hx hb dMd_make_38 rfl (lv_at hl 1 rfl) ?_
            refine lv_iadd hx hb dMd_make_39 ?_
            refine lv_iload_n hx hb dMd_make_40 rfl (lv_at hl 2 rfl) ?_
            refine lv_iadd hx hb dMd_make_41 ?_
            refine lv_istore_n (lv' := [(3, .int ((3 + x) + y)), (0, .ref (b 0)), (1, .int x), (2, .int y)]) hx hb dMd_make_42 rfl hl (by decide) rfl (fun ls hl => ?_)
            refine lv_aload_n hx hb dMd_make_43 rfl (lv_at hl 1 rfl) ?_
            refine va_get (C := RMd) (T := TMd) (N := 25) (ci := 2) (v := .ref (b 3)) hx hb hg inMd hown hK hP 0 rfl rfl 3 (by decide) (hg _ f_Md_16) (fun _ h9 => h9) rfl dMd_make_44 ?_
            refine lv_iconst (v := 0) hx hb dMd_make_47 (by decide) ?_
            refine va_iald hx hb hK hP 3 0 rfl rfl (by unfold vp_in; decide) dMd_make_48 ?_
            refine gx_top (z := (μ.A 2) 0) rfl ?_
            refine lv_iload_n hx hb dMd_make_49 rfl (lv_at hl 0 rfl) ?_
            refine lv_iadd hx hb dMd_make_50 ?_
            refine lv_aload_n hx hb dMd_make_51 rfl (lv_at hl 1 rfl) ?_
            refine va_get (C := RMd) (T := TMd) (N := 25) (ci := 2) (v := .ref (b 1)) hx hb hg inMd hown hK hP 0 rfl rfl 1 (by decide) (hg _ f_Md_7) (fun _ h9 => h9) rfl dMd_make_52 ?_
            refine lv_iconst (v := 0) hx hb dMd_make_55 (by decide) ?_
            refine va_iald hx hb hK hP 1 0 rfl rfl (by unfold vp_in; decide) dMd_make_56 ?_
            refine gx_top (z := (μ.A 0) 0) rfl ?_
            refine lv_aload_n hx hb dMd_make_57 rfl (lv_at hl 1 rfl) ?_
            refine va_get (C := RMd) (T := TMd) (N := 25) (ci := 2) (v := .ref (b 2)) hx hb hg inMd hown hK hP 0 rfl rfl 2 (by decide) (hg _ f_Md_13) (fun _ h9 => h9) rfl dMd_make_58 ?_
            refine lv_iconst (v := 0) hx hb dMd_make_61 (by decide) ?_
            refine va_iald hx hb hK hP 2 0 rfl rfl (by unfold vp_in; decide) dMd_make_62 ?_
            refine gx_top (z := (μ.A 1) 0) rfl ?_
            refine lv_iadd hx hb dMd_make_63 ?_
            refine lv_icmp_le (tgt := 69) hx hb dMd_make_64 (by decide) (fun c_64 => ?_) (fun c_64 => ?_)
            · exact absurd c_64 hful
            · refine lv_iconst (v := 0) hx hb dMd_make_67 (by decide) ?_
              exact gx_iret (u := μ.sM 0 0) E hK hP hD hS ⟨rfl, rfl⟩ dMd_make_68
          · exact absurd c_32 (by decide)
def mk1 (μ : mSt) (k : Nat) (x y : Int32) : mSt := (((((((μ.sM 0 0).sA 3 (upd (μ.A 3) k 1)).sA 4 (upd (μ.A 4) k 0)).sA 5 (upd (μ.A 5) k ((μ.A 2) 0))).sA 6 (upd (μ.A 6) k 0)).sA 7 (upd (μ.A 7) k x)).sA 8 (upd (μ.A 8) k y)).sA 9 (upd (μ.A 9) k (μ.M 3))
/-- a new object, number k -/
def mkM (μ : mSt) (k : Nat) (x y : Int32) (fl n : Nat) : mSt := (((mk1 μ k x y).sA 10 (fillF ((mk1 μ k x y).A 10) fl (fl + n) 0)).sM 3 (nI (fl + n))).sA 2 (upd ((mk1 μ k x y).A 2) 0 ((mk1 μ k x y).A 2 0 + (3 + x + y)))
set_option maxHeartbeats 4000000 in
set_option maxRecDepth 100000 in
/-- a new object -/
theorem qMd_make_ok (l : Launch) (D : va_G) (cI cZ : ClassId) (b : Nat → Nat) (μ : mSt) (x y : Int32) (k nf nw fl : Nat) (hxn : x = nI nf) (hyn : y = nI nw) (hle : μ.A 2 0 + (3 + x + y) ≤ μ.A 0 0 + μ.A 1 0) (hk : k < 3600) (h0 : μ.A 3 k = 0) (h1 : ∀ j, j < k → ¬ μ.A 3 j = 0) (hfl : μ.M 3 = nI fl) (hb : fl + (nf + nw) ≤ 24000) (hok : ¬ x < 0 ∧ ¬ 200 < x ∧ ¬ y < 0 ∧ ¬ 200 < y) : gx_Mi l yMd_make (Cond.code yMd_make cMd_make 6 (some .int) :: gW) (gR 3) D gC (mdT cI cZ) (mdW cI cZ b) μ [.ref (b 0), .int x, .int y] (fun r u => r = μ.A 2 0 ∧ u = mkM μ k x y fl (nf + nw)) := by
  refine gx_Mi.of (cc := cMd_make) (maxL := 6) (ret := (some .int)) (by decide) rfl (Nat.le_of_ble_eq_true rfl) ?_
  intro p e s m args below meth c ls A E hA hK hP hD hS hl
  obtain ⟨hx, hb, hr, hml, hts, hown, hlocks, hnm⟩ := id E
  have hg : ∀ w ∈ gW, w.before args s = true := fun w h => hts w (List.mem_cons_of_mem _ h)
  have hown : s.vm.findClass "NurseryRowModel" = some m.cls := hown
  have hl : lv_has ls 6 [(0, .ref (b 0)), (1, .int x), (2, .int y)] := hl
  refine lv_aload_n hx hb dMd_make_0 rfl (lv_at hl 0 rfl) ?_
  refine lv_iload_n hx hb dMd_make_1 rfl (lv_at hl 1 rfl) ?_
  refine lv_if_lt (tgt := 27) hx hb dMd_make_2 (by decide) (fun c_2 => ?_) (fun c_2 => ?_)
  · exact absurd c_2 hok.1
  · refine lv_iload_n hx hb dMd_make_5 rfl (lv_at hl 1 rfl) ?_
    refine lv_sipush (v := 200) hx hb dMd_make_6 (by decide) ?_
    refine lv_icmp_gt (tgt := 27) hx hb dMd_make_9 (by decide) (fun c_9 => ?_) (fun c_9 => ?_)
    · exact absurd c_9 hok.2.1
    · refine lv_iload_n hx hb dMd_make_12 rfl (lv_at hl 2 rfl) ?_
      refine lv_if_lt (tgt := 27) hx hb dMd_make_13 (by decide) (fun c_13 => ?_) (fun c_13 => ?_)
      · exact absurd c_13 hok.2.2.1
      · refine lv_iload_n hx hb dMd_make_16 rfl (lv_at hl 2 rfl) ?_
        refine lv_sipush (v := 200) hx hb dMd_make_17 (by decide) ?_
        refine lv_icmp_gt (tgt := 27) hx hb dMd_make_20 (by decide) (fun c_20 => ?_) (fun c_20 => ?_)
        · exact absurd c_20 hok.2.2.2
        · refine lv_iconst (v := 1) hx hb dMd_make_23 (by decide) ?_
          refine lv_goto (tgt := 28) hx hb dMd_make_24 (by decide) ?_
          refine lv_iconst (v := 1) hx hb dMd_make_28 (by decide) ?_
          refine gx_calli (C := "NurseryRowModel") (As := [.int 1, .int 1]) (rest := []) E (qMd_goes l D cI cZ b μ 1 1) (gx_cwV hts l_Md_88 k_Md_goes ki_Md_goes ke_Md_goes z_Md n_Md_goes ⟨by decide, by decide⟩) hK hP hD hS hA (va_recv hK hP (ci := 2) (q0 := 0) rfl rfl) hl.1 rfl rfl (Nat.le_of_ble_eq_true rfl) ⟨by decide, by decide⟩ dMd_make_29 (fun r_1 u_2 H locs hq_3 hP hD hS => ?_)
          obtain ⟨hr1, hu1⟩ := hq_3
          have hr1 : r_1 = 1 := hr1
          have hu1 : u_2 = μ.sM 0 0 := hu1
          subst hr1; subst hu1
          refine lv_if_ne (tgt := 37) hx hb dMd_make_32 (by decide) (fun c_32 => ?_) (fun c_32 => ?_)
          · refine lv_iconst (v := 3) hx hb dMd_make_37 (by decide) ?_
            refine lv_iload_n hx hb dMd_make_38 rfl (lv_at hl 1 rfl) ?_
            refine lv_iadd hx hb dMd_make_39 ?_
            refine lv_iload_n hx hb dMd_make_40 rfl (lv_at hl 2 rfl) ?_
            refine lv_iadd hx hb dMd_make_41 ?_
            refine lv_istore_n (lv' := [(3, .int ((3 + x) + y)), (0, .ref (b 0)), (1, .int x), (2, .int y)]) hx hb dMd_make_42 rfl hl (by decide) rfl (fun ls hl => ?_)
            refine lv_aload_n hx hb dMd_make_43 rfl (lv_at hl 1 rfl) ?_
            refine va_get (C := RMd) (T := TMd) (N := 25) (ci := 2) (v := .ref (b 3)) hx hb hg inMd hown hK hP 0 rfl rfl 3 (by decide) (hg _ f_Md_16) (fun _ h9 => h9) rfl dMd_make_44 ?_
            refine lv_iconst (v := 0) hx hb dMd_make_47 (by decide) ?_
            refine va_iald hx hb hK hP 3 0 rfl rfl (by unfold vp_in; decide) dMd_make_48 ?_
            refine gx_top (z := (μ.A 2) 0) rfl ?_
            refine lv_iload_n hx hb dMd_make_49 rfl (lv_at hl 0 rfl) ?_
            refine lv_iadd hx hb dMd_make_50 ?_
            refine lv_aload_n hx hb dMd_make_51 rfl (lv_at hl 1 rfl) ?_
            refine va_get (C := RMd) (T := TMd) (N := 25) (ci := 2) (v := .ref (b 1)) hx hb hg inMd hown hK hP 0 rfl rfl 1 (by decide) (hg _ f_Md_7) (fun _ h9 => h9) rfl dMd_make_52 ?_
            refine lv_iconst (v := 0) hx hb dMd_make_55 (by decide) ?_
            refine va_iald hx hb hK hP 1 0 rfl rfl (by unfold vp_in; decide) dMd_make_56 ?_
            refine gx_top (z := (μ.A 0) 0) rfl ?_
            refine lv_aload_n hx hb dMd_make_57 rfl (lv_at hl 1 rfl) ?_
            refine va_get (C := RMd) (T := TMd) (N := 25) (ci := 2) (v := .ref (b 2)) hx hb hg inMd hown hK hP 0 rfl rfl 2 (by decide) (hg _ f_Md_13) (fun _ h9 => h9) rfl dMd_make_58 ?_
            refine lv_iconst (v := 0) hx hb dMd_make_61 (by decide) ?_
            refine va_iald hx hb hK hP 2 0 rfl rfl (by unfold vp_in; decide) dMd_make_62 ?_
            refine gx_top (z := (μ.A 1) 0) rfl ?_
            refine lv_iadd hx hb dMd_make_63 ?_
            refine lv_icmp_le (tgt := 69) hx hb dMd_make_64 (by decide) (fun c_64 => ?_) (fun c_64 => ?_)
            · refine lv_aload_n hx hb dMd_make_69 rfl (lv_at hl 1 rfl) ?_
              refine gx_callp (C := "NurseryRowModel") (As := []) (rest := []) E (qMd_freeNumber l D cI cZ b (μ.sM 0 0) k hk h0 h1) (gx_cwV hts l_Md_92 k_Md_freeNumber ki_Md_freeNumber ke_Md_freeNumber z_Md n_Md_freeNumber ⟨by decide, by decide⟩) hK hP hD (va_recv hK hP (ci := 2) (q0 := 0) rfl rfl) hl.1 rfl rfl (Nat.le_of_ble_eq_true rfl) ⟨Nat.zero_le _, Nat.zero_le _⟩ dMd_make_70 ?_
              refine lv_istore (lv' := [(4, .int (nI k)), (3, .int ((3 + x) + y)), (0, .ref (b 0)), (1, .int x), (2, .int y)]) hx hb dMd_make_73 hl (by decide) rfl (fun ls hl => ?_)
              refine lv_aload_n hx hb dMd_make_75 rfl (lv_at hl 2 rfl) ?_
              refine va_get (C := RMd) (T := TMd) (N := 25) (ci := 2) (v := .ref (b 4)) hx hb hg inMd hown hK hP 0 rfl rfl 6 (by decide) (hg _ f_Md_26) (fun _ h9 => h9) rfl dMd_make_76 ?_
              refine lv_iload hx hb dMd_make_79 (lv_at hl 0 rfl) ?_
              refine lv_iconst (v := 1) hx hb dMd_make_81 (by decide) ?_
              refine va_zast hx hb hK hP hD hS 4 1 rfl rfl (vp_in_nI (show k < 3600 from hk) (by decide)) dMd_make_82 (fun H locs hP hD hS => ?_)
              rw [show vp_nar .boolean 1 = 1 from rfl] at hP hD
              rw [nI_clamp (Nat.lt_trans (show k < 3600 from hk) (by decide))] at hP hD
              rw [mdA_3] at hP hD
              refine lv_aload_n hx hb dMd_make_83 rfl (lv_at hl 2 rfl) ?_
              refine va_get (C := RMd) (T := TMd) (N := 25) (ci := 2) (v := .ref (b 5)) hx hb hg inMd hown hK hP 0 rfl rfl 7 (by decide) (hg _ f_Md_30) (fun _ h9 => h9) rfl dMd_make_84 ?_
              refine lv_iload hx hb dMd_make_87 (lv_at hl 0 rfl) ?_
              refine lv_iconst (v := 0) hx hb dMd_make_89 (by decide) ?_
              refine va_iast hx hb hK hP hD hS 5 0 rfl rfl (vp_in_nI (show k < 3600 from hk) (by decide)) dMd_make_90 (fun H locs hP hD hS => ?_)
              rw [nI_clamp (Nat.lt_trans (show k < 3600 from hk) (by decide))] at hP hD
              rw [mdA_4] at hP hD
              refine lv_aload_n hx hb dMd_make_91 rfl (lv_at hl 2 rfl) ?_
              refine va_get (C := RMd) (T := TMd) (N := 25) (ci := 2) (v := .ref (b 6)) hx hb hg inMd hown hK hP 0 rfl rfl 8 (by decide) (hg _ f_Md_33) (fun _ h9 => h9) rfl dMd_make_92 ?_
              refine lv_iload hx hb dMd_make_95 (lv_at hl 0 rfl) ?_
              refine lv_aload_n hx hb dMd_make_97 rfl (lv_at hl 2 rfl) ?_
              refine va_get (C := RMd) (T := TMd) (N := 25) (ci := 2) (v := .ref (b 3)) hx hb hg inMd hown hK hP 0 rfl rfl 3 (by decide) (hg _ f_Md_16) (fun _ h9 => h9) rfl dMd_make_98 ?_
              refine lv_iconst (v := 0) hx hb dMd_make_101 (by decide) ?_
              refine va_iald hx hb hK hP 3 0 rfl rfl (by unfold vp_in; decide) dMd_make_102 ?_
              refine gx_top (z := (μ.A 2) 0) rfl ?_
              refine va_iast hx hb hK hP hD hS 6 0 rfl rfl (vp_in_nI (show k < 3600 from hk) (by decide)) dMd_make_103 (fun H locs hP hD hS => ?_)
              rw [nI_clamp (Nat.lt_trans (show k < 3600 from hk) (by decide))] at hP hD
              rw [mdA_5] at hP hD
              refine lv_aload_n hx hb dMd_make_104 rfl (lv_at hl 2 rfl) ?_
              refine va_get (C := RMd) (T := TMd) (N := 25) (ci := 2) (v := .ref (b 7)) hx hb hg inMd hown hK hP 0 rfl rfl 9 (by decide) (hg _ f_Md_36) (fun _ h9 => h9) rfl dMd_make_105 ?_
              refine lv_iload hx hb dMd_make_108 (lv_at hl 0 rfl) ?_
              refine lv_iconst (v := 0) hx hb dMd_make_110 (by decide) ?_
              refine va_iast hx hb hK hP hD hS 7 0 rfl rfl (vp_in_nI (show k < 3600 from hk) (by decide)) dMd_make_111 (fun H locs hP hD hS => ?_)
              rw [nI_clamp (Nat.lt_trans (show k < 3600 from hk) (by decide))] at hP hD
              rw [mdA_6] at hP hD
              refine lv_aload_n hx hb dMd_make_112 rfl (lv_at hl 2 rfl) ?_
              refine va_get (C := RMd) (T := TMd) (N := 25) (ci := 2) (v := .ref (b 8)) hx hb hg inMd hown hK hP 0 rfl rfl 10 (by decide) (hg _ f_Md_39) (fun _ h9 => h9) rfl dMd_make_113 ?_
              refine lv_iload hx hb dMd_make_116 (lv_at hl 0 rfl) ?_
              refine lv_iload_n hx hb dMd_make_118 rfl (lv_at hl 3 rfl) ?_
              refine va_iast hx hb hK hP hD hS 8 0 rfl rfl (vp_in_nI (show k < 3600 from hk) (by decide)) dMd_make_119 (fun H locs hP hD hS => ?_)
              rw [nI_clamp (Nat.lt_trans (show k < 3600 from hk) (by decide))] at hP hD
              rw [mdA_7] at hP hD
              refine lv_aload_n hx hb dMd_make_120 rfl (lv_at hl 2 rfl) ?_
              refine va_get (C := RMd) (T := TMd) (N := 25) (ci := 2) (v := .ref (b 9)) hx hb hg inMd hown hK hP 0 rfl rfl 11 (by decide) (hg _ f_Md_42) (fun _ h9 => h9) rfl dMd_make_121 ?_
              refine lv_iload hx hb dMd_make_124 (lv_at hl 0 rfl) ?_
              refine lv_iload_n hx hb dMd_make_126 rfl (lv_at hl 4 rfl) ?_
              refine va_iast hx hb hK hP hD hS 9 0 rfl rfl (vp_in_nI (show k < 3600 from hk) (by decide)) dMd_make_127 (fun H locs hP hD hS => ?_)
              rw [nI_clamp (Nat.lt_trans (show k < 3600 from hk) (by decide))] at hP hD
              rw [mdA_8] at hP hD
              refine lv_aload_n hx hb dMd_make_128 rfl (lv_at hl 2 rfl) ?_
              refine va_get (C := RMd) (T := TMd) (N := 25) (ci := 2) (v := .ref (b 10)) hx hb hg inMd hown hK hP 0 rfl rfl 12 (by decide) (hg _ f_Md_45) (fun _ h9 => h9) rfl dMd_make_129 ?_
              refine lv_iload hx hb dMd_make_132 (lv_at hl 0 rfl) ?_
              refine lv_aload_n hx hb dMd_make_134 rfl (lv_at hl 2 rfl) ?_
              refine va_get (C := RMd) (T := TMd) (N := 25) (ci := 2) (v := .int (μ.M 3)) hx hb hg inMd hown hK hP 0 rfl rfl 13 (by decide) (hg _ f_Md_73) (fun _ h9 => h9) rfl dMd_make_135 ?_
              refine va_iast hx hb hK hP hD hS 10 0 rfl rfl (vp_in_nI (show k < 3600 from hk) (by decide)) dMd_make_138 (fun H locs hP hD hS => ?_)
              rw [nI_clamp (Nat.lt_trans (show k < 3600 from hk) (by decide))] at hP hD
              rw [mdA_9] at hP hD
              refine lv_iconst (v := 0) hx hb dMd_make_139 (by decide) ?_
              refine lv_istore (lv' := [(5, .int 0), (4, .int (nI k)), (3, .int ((3 + x) + y)), (0, .ref (b 0)), (1, .int x), (2, .int y)]) hx hb dMd_make_140 hl (by decide) rfl (fun ls hl => ?_)
              obtain ⟨μ1, hμ1, hP, hD⟩ : ∃ μ1 : mSt, μ1 = mk1 μ k x y ∧ va_P D gC (mdW cI cZ b μ1) H ∧ va_D A (mdW cI cZ b μ1) := ⟨_, (by unfold mk1; rfl), hP, hD⟩
              have e3 : μ1.M 3 = nI fl := by rw [hμ1]; exact hfl
              have e5 : μ1.A 5 k = μ.A 2 0 := by rw [hμ1]; exact pk_us
              have key : ∀ (n : Nat) (t : Nat) (H : Heap) (locs : List Loc) (ls : Array Slot), (t + n = nf + nw) → va_P D gC (mdW cI cZ b ((μ1.sA 10 (fillF (μ1.A 10) fl (fl + t) 0)).sM 3 (nI (fl + t)))) H → va_D A (mdW cI cZ b ((μ1.sA 10 (fillF (μ1.A 10) fl (fl + t) 0)).sM 3 (nI (fl + t)))) → va_S A s.heap H locs → lv_has ls 6 [(0, .ref (b 0)), (1, .int x), (2, .int y), (3, .int ((3 + x) + y)), (4, .int (nI k)), (5, .int (nI t))] → W p l e (gR 3) s m args below meth c H locs 0 0 (MQ below (va_Qi (fun r u => r = μ.A 2 0 ∧ u = mkM μ k x y fl (nf + nw)) (gx_B D gC (mdT cI cZ) (mdW cI cZ b) A) A) args s 0 0 A) (F0 m 142 ls []) := by
                intro n
                induction n with
                | zero =>
                  intro t H locs ls hte hP hD hS hl
                  have hte : t = nf + nw := hte
                  refine lv_iload hx hb dMd_make_142 (lv_at hl 5 rfl) ?_
                  refine lv_iload_n hx hb dMd_make_144 rfl (lv_at hl 1 rfl) ?_
                  refine lv_iload_n hx hb dMd_make_145 rfl (lv_at hl 2 rfl) ?_
                  refine lv_iadd hx hb dMd_make_146 ?_
                  refine gx_top (z := nI (nf + nw)) (by rw [hxn, hyn, nI_add]) ?_
                  refine lv_icmp_ge (tgt := 176) hx hb dMd_make_147 (by decide) (fun c_147 => ?_) (fun c_147 => ?_)
                  · refine lv_aload_n hx hb dMd_make_176 rfl (lv_at hl 0 rfl) ?_
                    refine va_get (C := RMd) (T := TMd) (N := 25) (ci := 2) (v := .ref (b 3)) hx hb hg inMd hown hK hP 0 rfl rfl 3 (by decide) (hg _ f_Md_16) (fun _ h9 => h9) rfl dMd_make_177 ?_
                    refine lv_iconst (v := 0) hx hb dMd_make_180 (by decide) ?_
                    refine lv_aload_n hx hb dMd_make_181 rfl (lv_at hl 0 rfl) ?_
                    refine va_get (C := RMd) (T := TMd) (N := 25) (ci := 2) (v := .ref (b 3)) hx hb hg inMd hown hK hP 0 rfl rfl 3 (by decide) (hg _ f_Md_16) (fun _ h9 => h9) rfl dMd_make_182 ?_
                    refine lv_iconst (v := 0) hx hb dMd_make_185 (by decide) ?_
                    refine va_iald hx hb hK hP 3 0 rfl rfl (by unfold vp_in; decide) dMd_make_186 ?_
                    refine gx_top (z := (μ1.A 2) 0) rfl ?_
                    refine lv_iload_n hx hb dMd_make_187 rfl (lv_at hl 3 rfl) ?_
                    refine lv_iadd hx hb dMd_make_188 ?_
                    refine va_iast hx hb hK hP hD hS 3 0 rfl rfl (by unfold vp_in; decide) dMd_make_189 (fun H locs hP hD hS => ?_)
                    rw [show (0 : Int32).toNatClampNeg = 0 from by decide] at hP hD
                    rw [mdA_2] at hP hD
                    refine lv_aload_n hx hb dMd_make_190 rfl (lv_at hl 0 rfl) ?_
                    refine va_get (C := RMd) (T := TMd) (N := 25) (ci := 2) (v := .ref (b 6)) hx hb hg inMd hown hK hP 0 rfl rfl 8 (by decide) (hg _ f_Md_33) (fun _ h9 => h9) rfl dMd_make_191 ?_
                    refine lv_iload hx hb dMd_make_194 (lv_at hl 4 rfl) ?_
                    refine va_iald hx hb hK hP 6 0 rfl rfl (vp_in_nI (show k < 3600 from hk) (by decide)) dMd_make_196 ?_
                    refine gx_top (z := (μ1.A 5) k) (congrArg _ (nI_clamp (Nat.lt_trans (show k < 3600 from hk) (by decide)))) ?_
                    exact gx_iret (u := ((μ1.sA 10 (fillF (μ1.A 10) fl (fl + t) 0)).sM 3 (nI (fl + t))).sA 2 (upd (μ1.A 2) 0 (((μ1.A 2) 0) + ((3 + x) + y)))) E hK hP hD hS ⟨e5, by rw [hμ1, hte]; unfold mkM; rfl⟩ dMd_make_197
                  · exact absurd c_147 (not_not_intro (nI_le (by omega) (by omega)))
                | succ n ih =>
                  intro t H locs ls hte hP hD hS hl
                  refine lv_iload hx hb dMd_make_142 (lv_at hl 5 rfl) ?_
                  refine lv_iload_n hx hb dMd_make_144 rfl (lv_at hl 1 rfl) ?_
                  refine lv_iload_n hx hb dMd_make_145 rfl (lv_at hl 2 rfl) ?_
                  refine lv_iadd hx hb dMd_make_146 ?_
                  refine gx_top (z := nI (nf + nw)) (by rw [hxn, hyn, nI_add]) ?_
                  refine lv_icmp_ge (tgt := 176) hx hb dMd_make_147 (by decide) (fun c_147 => ?_) (fun c_147 => ?_)
                  · exact absurd c_147 (nI_ge (by omega) (by omega))
                  · refine lv_aload_n hx hb dMd_make_150 rfl (lv_at hl 0 rfl) ?_
                    refine va_get (C := RMd) (T := TMd) (N := 25) (ci := 2) (v := .ref (b 11)) hx hb hg inMd hown hK hP 0 rfl rfl 14 (by decide) (hg _ f_Md_48) (fun _ h9 => h9) rfl dMd_make_151 ?_
                    refine lv_aload_n hx hb dMd_make_154 rfl (lv_at hl 0 rfl) ?_
                    refine va_get (C := RMd) (T := TMd) (N := 25) (ci := 2) (v := .int (nI (fl + t))) hx hb hg inMd hown hK hP 0 rfl rfl 13 (by decide) (hg _ f_Md_73) (fun _ h9 => h9) rfl dMd_make_155 ?_
                    refine lv_iconst (v := 0) hx hb dMd_make_158 (by decide) ?_
                    refine va_iast hx hb hK hP hD hS 11 0 rfl rfl (vp_in_nI (show fl + t < 24000 from (by omega)) (by decide)) dMd_make_159 (fun H locs hP hD hS => ?_)
                    rw [nI_clamp (Nat.lt_trans (show fl + t < 24000 from (by omega)) (by decide))] at hP hD
                    rw [mdA_10] at hP hD
                    refine lv_aload_n hx hb dMd_make_160 rfl (lv_at hl 0 rfl) ?_
                    refine lv_dup hx hb dMd_make_161 rfl ?_
                    refine va_get (C := RMd) (T := TMd) (N := 25) (ci := 2) (v := .int (nI (fl + t))) hx hb hg inMd hown hK hP 0 rfl rfl 13 (by decide) (hg _ f_Md_73) (fun _ h9 => h9) rfl dMd_make_162 ?_
                    refine lv_iconst (v := 1) hx hb dMd_make_165 (by decide) ?_
                    refine lv_iadd hx hb dMd_make_166 ?_
                    refine gx_top (z := nI (fl + (t + 1))) (nI_1 _) ?_
                    refine va_put (C := RMd) (T := TMd) (N := 25) (ci := 2) (v := .int (nI (fl + (t + 1)))) hx hb hg inMd tyMd tyMd_ok nmMd hown hK hP hD hS 0 rfl rfl 13 (by decide) (hg _ f_Md_73) (fun _ h9 => h9) rfl (tyMd_ok 13 (by decide)) rfl rfl (Nat.le_of_ble_eq_true rfl) dMd_make_167 (fun H locs hP hD hS => ?_)
                    rw [mdM_3] at hP hD
                    refine lv_iinc (v := nI (t + 1)) (lv' := [(5, .int (nI (t + 1))), (0, .ref (b 0)), (1, .int x), (2, .int y), (3, .int ((3 + x) + y)), (4, .int (nI k))]) hx hb dMd_make_170 hl (k := 5) rfl (by rw [← nI_1]; rfl) (by decide) rfl (fun ls hl => ?_)
                    refine lv_goto (tgt := 142) hx hb dMd_make_173 (by decide) ?_
                    rw [mdL_a, mdL_c, fillF_1 _ (Nat.le_add_right fl t)] at hP hD
                    exact ih (t + 1) H locs ls (by omega) hP hD hS (lv_sub hl [1, 2, 3, 4, 5, 0] rfl)
              exact key (nf + nw) 0 H locs ls (Nat.zero_add _) (by rw [Nat.add_zero, fillF_0, ← e3, mdL_b]; exact hP) (by rw [Nat.add_zero, fillF_0, ← e3, mdL_b]; exact hD) hS (lv_sub hl [3, 4, 5, 2, 1, 0] rfl)
            · exact absurd c_64 (not_not_intro hle)
          · exact absurd c_32 (by decide)
set_option maxHeartbeats 4000000 in
set_option maxRecDepth 100000 in
/-- nothing -/
theorem qMd_find_0 (l : Launch) (D : va_G) (cI cZ : ClassId) (b : Nat → Nat) (μ : mSt) : gx_Mv l yMd_find (Cond.code yMd_find cMd_find 6 none :: gW) (gR 1) D gC (mdT cI cZ) (mdW cI cZ b) μ [.ref (b 0), .int 0] (fun u => u = μ) := by
  refine gx_Mv.of (cc := cMd_find) (maxL := 6) (by decide) rfl (Nat.le_of_ble_eq_true rfl) ?_
  intro p e s m args below meth c ls A E hA hK hP hD hS hl
  obtain ⟨hx, hb, hr, hml, hts, hown, hlocks, hnm⟩ := id E
  have hg : ∀ w ∈ gW, w.before args s = true := fun w h => hts w (List.mem_cons_of_mem _ h)
  have hown : s.vm.findClass "NurseryRowModel" = some m.cls := hown
  have hl : lv_has ls 6 [(0, .ref (b 0)), (1, .int 0)] := hl
  refine lv_iload_n hx hb dMd_find_0 rfl (lv_at hl 1 rfl) ?_
  refine lv_iconst (v := 1) hx hb dMd_find_1 (by decide) ?_
  refine lv_isub hx hb dMd_find_2 ?_
  refine gx_top (z := (-1)) (by decide) ?_
  refine lv_istore_n (lv' := [(2, .int (-1)), (0, .ref (b 0)), (1, .int 0)]) hx hb dMd_find_3 rfl hl (by decide) rfl (fun ls hl => ?_)
  refine lv_iload_n hx hb dMd_find_4 rfl (lv_at hl 0 rfl) ?_
  refine lv_if_lt (tgt := 27) hx hb dMd_find_5 (by decide) (fun c_5 => ?_) (fun c_5 => ?_)
  · exact gx_vret (u := μ) E hK hP hD hS rfl dMd_find_27
  · exact absurd c_5 (by decide)
set_option maxHeartbeats 4000000 in
set_option maxRecDepth 100000 in
/-- an old one -/
theorem qMd_find_1 (l : Launch) (D : va_G) (cI cZ : ClassId) (b : Nat → Nat) (μ : mSt) (k : Nat) (hk : k < 3600) (h3 : μ.A 4 k = 3) : gx_Mv l yMd_find (Cond.code yMd_find cMd_find 6 none :: gW) (gR 1) D gC (mdT cI cZ) (mdW cI cZ b) μ [.ref (b 0), .int (nI (k + 1))] (fun u => u = μ) := by
  refine gx_Mv.of (cc := cMd_find) (maxL := 6) (by decide) rfl (Nat.le_of_ble_eq_true rfl) ?_
  intro p e s m args below meth c ls A E hA hK hP hD hS hl
  obtain ⟨hx, hb, hr, hml, hts, hown, hlocks, hnm⟩ := id E
  have hg : ∀ w ∈ gW, w.before args s = true := fun w h => hts w (List.mem_cons_of_mem _ h)
  have hown : s.vm.findClass "NurseryRowModel" = some m.cls := hown
  have hl : lv_has ls 6 [(0, .ref (b 0)), (1, .int (nI (k + 1)))] := hl
  refine lv_iload_n hx hb dMd_find_0 rfl (lv_at hl 1 rfl) ?_
  refine lv_iconst (v := 1) hx hb dMd_find_1 (by decide) ?_
  refine lv_isub hx hb dMd_find_2 ?_
  refine gx_top (z := nI k) (nI_pred k) ?_
  refine lv_istore_n (lv' := [(2, .int (nI k)), (0, .ref (b 0)), (1, .int (nI (k + 1)))]) hx hb dMd_find_3 rfl hl (by decide) rfl (fun ls hl => ?_)
  refine lv_iload_n hx hb dMd_find_4 rfl (lv_at hl 0 rfl) ?_
  refine lv_if_lt (tgt := 27) hx hb dMd_find_5 (by decide) (fun c_5 => ?_) (fun c_5 => ?_)
  · exact absurd c_5 (nI_pos (Nat.lt_trans hk (by decide)))
  · refine lv_aload_n hx hb dMd_find_8 rfl (lv_at hl 1 rfl) ?_
    refine va_get (C := RMd) (T := TMd) (N := 25) (ci := 2) (v := .ref (b 5)) hx hb hg inMd hown hK hP 0 rfl rfl 7 (by decide) (hg _ f_Md_30) (fun _ h9 => h9) rfl dMd_find_9 ?_
    refine lv_iload_n hx hb dMd_find_12 rfl (lv_at hl 0 rfl) ?_
    refine va_iald hx hb hK hP 5 0 rfl rfl (vp_in_nI (show k < 3600 from hk) (by decide)) dMd_find_13 ?_
    refine gx_top (z := (μ.A 4) k) (congrArg _ (nI_clamp (Nat.lt_trans (show k < 3600 from hk) (by decide)))) ?_
    refine lv_iconst (v := 3) hx hb dMd_find_14 (by decide) ?_
    refine lv_icmp_eq (tgt := 27) hx hb dMd_find_15 (by decide) (fun c_15 => ?_) (fun c_15 => ?_)
    · exact gx_vret (u := μ) E hK hP hD hS rfl dMd_find_27
    · exact absurd c_15 (not_not_intro h3)
set_option maxHeartbeats 4000000 in
set_option maxRecDepth 100000 in
/-- one that is moved -/
theorem qMd_find_2 (l : Launch) (D : va_G) (cI cZ : ClassId) (b : Nat → Nat) (μ : mSt) (k : Nat) (hk : k < 3600) (h3 : ¬ μ.A 4 k = 3) (hm : ¬ μ.A 14 k = 0) : gx_Mv l yMd_find (Cond.code yMd_find cMd_find 6 none :: gW) (gR 1) D gC (mdT cI cZ) (mdW cI cZ b) μ [.ref (b 0), .int (nI (k + 1))] (fun u => u = μ) := by
  refine gx_Mv.of (cc := cMd_find) (maxL := 6) (by decide) rfl (Nat.le_of_ble_eq_true rfl) ?_
  intro p e s m args below meth c ls A E hA hK hP hD hS hl
  obtain ⟨hx, hb, hr, hml, hts, hown, hlocks, hnm⟩ := id E
  have hg : ∀ w ∈ gW, w.before args s = true := fun w h => hts w (List.mem_cons_of_mem _ h)
  have hown : s.vm.findClass "NurseryRowModel" = some m.cls := hown
  have hl : lv_has ls 6 [(0, .ref (b 0)), (1, .int (nI (k + 1)))] := hl
  refine lv_iload_n hx hb dMd_find_0 rfl (lv_at hl 1 rfl) ?_
  refine lv_iconst (v := 1) hx hb dMd_find_1 (by decide) ?_
  refine lv_isub hx hb dMd_find_2 ?_
  refine gx_top (z := nI k) (nI_pred k) ?_
  refine lv_istore_n (lv' := [(2, .int (nI k)), (0, .ref (b 0)), (1, .int (nI (k + 1)))]) hx hb dMd_find_3 rfl hl (by decide) rfl (fun ls hl => ?_)
  refine lv_iload_n hx hb dMd_find_4 rfl (lv_at hl 0 rfl) ?_
  refine lv_if_lt (tgt := 27) hx hb dMd_find_5 (by decide) (fun c_5 => ?_) (fun c_5 => ?_)
  · exact absurd c_5 (nI_pos (Nat.lt_trans hk (by decide)))
  · refine lv_aload_n hx hb dMd_find_8 rfl (lv_at hl 1 rfl) ?_
    refine va_get (C := RMd) (T := TMd) (N := 25) (ci := 2) (v := .ref (b 5)) hx hb hg inMd hown hK hP 0 rfl rfl 7 (by decide) (hg _ f_Md_30) (fun _ h9 => h9) rfl dMd_find_9 ?_
    refine lv_iload_n hx hb dMd_find_12 rfl (lv_at hl 0 rfl) ?_
    refine va_iald hx hb hK hP 5 0 rfl rfl (vp_in_nI (show k < 3600 from hk) (by decide)) dMd_find_13 ?_
    refine gx_top (z := (μ.A 4) k) (congrArg _ (nI_clamp (Nat.lt_trans (show k < 3600 from hk) (by decide)))) ?_
    refine lv_iconst (v := 3) hx hb dMd_find_14 (by decide) ?_
    refine lv_icmp_eq (tgt := 27) hx hb dMd_find_15 (by decide) (fun c_15 => ?_) (fun c_15 => ?_)
    · exact absurd c_15 h3
    · refine lv_aload_n hx hb dMd_find_18 rfl (lv_at hl 1 rfl) ?_
      refine va_get (C := RMd) (T := TMd) (N := 25) (ci := 2) (v := .ref (b 15)) hx hb hg inMd hown hK hP 0 rfl rfl 20 (by decide) (hg _ f_Md_60) (fun _ h9 => h9) rfl dMd_find_19 ?_
      refine lv_iload_n hx hb dMd_find_22 rfl (lv_at hl 0 rfl) ?_
      refine va_zald hx hb hK hP 15 1 rfl rfl (vp_in_nI (show k < 3600 from hk) (by decide)) dMd_find_23 ?_
      refine gx_top (z := (μ.A 14) k) (congrArg _ (nI_clamp (Nat.lt_trans (show k < 3600 from hk) (by decide)))) ?_
      refine lv_if_eq (tgt := 28) hx hb dMd_find_24 (by decide) (fun c_24 => ?_) (fun c_24 => ?_)
      · exact absurd c_24 hm
      · exact gx_vret (u := μ) E hK hP hD hS rfl dMd_find_27
/-- number k moves to the other row -/
def mvR (μ : mSt) (o k nc : Nat) : mSt := ((((((((μ.sA 4 (upd (μ.A 4) k (nI o))).sA 5 (upd (μ.A 5) k ((μ.A 2) o))).sA 2 (upd (μ.A 2) o (((μ.A 2) o) + (3 + μ.A 7 k + μ.A 8 k)))).sA 6 (upd (μ.A 6) k (((μ.A 6) k) + 1))).sM 7 ((μ.M 7) + 1)).sM 8 (μ.M 8)).sA 14 (upd (μ.A 14) k 1)).sA 13 (upd (μ.A 13) nc (nI k))).sM 5 ((μ.M 5) + 1)
/-- number k moves to OLD -/
def mvO (μ : mSt) (k nc : Nat) : mSt := ((((((((μ.sA 4 (upd (μ.A 4) k 3)).sA 5 (upd (μ.A 5) k ((μ.A 2) 3))).sA 2 (upd (μ.A 2) 3 (((μ.A 2) 3) + (3 + μ.A 7 k + μ.A 8 k)))).sA 6 (upd (μ.A 6) k ((μ.A 6) k))).sM 7 (μ.M 7)).sM 8 ((μ.M 8) + 1)).sA 14 (upd (μ.A 14) k 1)).sA 13 (upd (μ.A 13) nc (nI k))).sM 5 ((μ.M 5) + 1)
set_option maxHeartbeats 4000000 in
set_option maxRecDepth 100000 in
/-- into the other row -/
theorem qMd_find_R (l : Launch) (D : va_G) (cI cZ : ClassId) (b : Nat → Nat) (μ : mSt) (k o nc : Nat) (hk : k < 3600) (h3 : ¬ μ.A 4 k = 3) (hm : μ.A 14 k = 0) (ho : 3 - μ.M 1 = nI o) (ho4 : o < 4) (hnc : μ.M 5 = nI nc) (hncl : nc < 3600) (hage : μ.A 6 k < μ.M 2) (hrm : μ.A 2 o + (3 + μ.A 7 k + μ.A 8 k) ≤ μ.A 0 o + μ.A 1 o) : gx_Mv l yMd_find (Cond.code yMd_find cMd_find 6 none :: gW) (gR 1) D gC (mdT cI cZ) (mdW cI cZ b) μ [.ref (b 0), .int (nI (k + 1))] (fun u => u = mvR μ o k nc) := by
  refine gx_Mv.of (cc := cMd_find) (maxL := 6) (by decide) rfl (Nat.le_of_ble_eq_true rfl) ?_
  intro p e s m args below meth c ls A E hA hK hP hD hS hl
  obtain ⟨hx, hb, hr, hml, hts, hown, hlocks, hnm⟩ := id E
  have hg : ∀ w ∈ gW, w.before args s = true := fun w h => hts w (List.mem_cons_of_mem _ h)
  have hown : s.vm.findClass "NurseryRowModel" = some m.cls := hown
  have hl : lv_has ls 6 [(0, .ref (b 0)), (1, .int (nI (k + 1)))] := hl
  refine lv_iload_n hx hb dMd_find_0 rfl (lv_at hl 1 rfl) ?_
  refine lv_iconst (v := 1) hx hb dMd_find_1 (by decide) ?_
  refine lv_isub hx hb dMd_find_2 ?_
  refine gx_top (z := nI k) (nI_pred k) ?_
  refine lv_istore_n (lv' := [(2, .int (nI k)), (0, .ref (b 0)), (1, .int (nI (k + 1)))]) hx hb dMd_find_3 rfl hl (by decide) rfl (fun ls hl => ?_)
  refine lv_iload_n hx hb dMd_find_4 rfl (lv_at hl 0 rfl) ?_
  refine lv_if_lt (tgt := 27) hx hb dMd_find_5 (by decide) (fun c_5 => ?_) (fun c_5 => ?_)
  · exact absurd c_5 (nI_pos (Nat.lt_trans hk (by decide)))
  · refine lv_aload_n hx hb dMd_find_8 rfl (lv_at hl 1 rfl) ?_
    refine va_get (C := RMd) (T := TMd) (N := 25) (ci := 2) (v := .ref (b 5)) hx hb hg inMd hown hK hP 0 rfl rfl 7 (by decide) (hg _ f_Md_30) (fun _ h9 => h9) rfl dMd_find_9 ?_
    refine lv_iload_n hx hb dMd_find_12 rfl (lv_at hl 0 rfl) ?_
    refine va_iald hx hb hK hP 5 0 rfl rfl (vp_in_nI (show k < 3600 from hk) (by decide)) dMd_find_13 ?_
    refine gx_top (z := (μ.A 4) k) (congrArg _ (nI_clamp (Nat.lt_trans (show k < 3600 from hk) (by decide)))) ?_
    refine lv_iconst (v := 3) hx hb dMd_find_14 (by decide) ?_
    refine lv_icmp_eq (tgt := 27) hx hb dMd_find_15 (by decide) (fun c_15 => ?_) (fun c_15 => ?_)
    · exact absurd c_15 h3
    · refine lv_aload_n hx hb dMd_find_18 rfl (lv_at hl 1 rfl) ?_
      refine va_get (C := RMd) (T := TMd) (N := 25) (ci := 2) (v := .ref (b 15)) hx hb hg inMd hown hK hP 0 rfl rfl 20 (by decide) (hg _ f_Md_60) (fun _ h9 => h9) rfl dMd_find_19 ?_
      refine lv_iload_n hx hb dMd_find_22 rfl (lv_at hl 0 rfl) ?_
      refine va_zald hx hb hK hP 15 1 rfl rfl (vp_in_nI (show k < 3600 from hk) (by decide)) dMd_find_23 ?_
      refine gx_top (z := (μ.A 14) k) (congrArg _ (nI_clamp (Nat.lt_trans (show k < 3600 from hk) (by decide)))) ?_
      refine lv_if_eq (tgt := 28) hx hb dMd_find_24 (by decide) (fun c_24 => ?_) (fun c_24 => ?_)
      · refine lv_iconst (v := 3) hx hb dMd_find_28 (by decide) ?_
        refine lv_aload_n hx hb dMd_find_29 rfl (lv_at hl 1 rfl) ?_
        refine va_get (C := RMd) (T := TMd) (N := 25) (ci := 2) (v := .int (μ.M 1)) hx hb hg inMd hown hK hP 0 rfl rfl 4 (by decide) (hg _ f_Md_19) (fun _ h9 => h9) rfl dMd_find_30 ?_
        refine lv_isub hx hb dMd_find_33 ?_
        refine gx_top (z := nI o) ho ?_
        refine lv_istore_n (lv' := [(3, .int (nI o)), (2, .int (nI k)), (0, .ref (b 0)), (1, .int (nI (k + 1)))]) hx hb dMd_find_34 rfl hl (by decide) rfl (fun ls hl => ?_)
        refine lv_aload_n hx hb dMd_find_35 rfl (lv_at hl 2 rfl) ?_
        refine va_get (C := RMd) (T := TMd) (N := 25) (ci := 2) (v := .ref (b 7)) hx hb hg inMd hown hK hP 0 rfl rfl 9 (by decide) (hg _ f_Md_36) (fun _ h9 => h9) rfl dMd_find_36 ?_
        refine lv_iload_n hx hb dMd_find_39 rfl (lv_at hl 1 rfl) ?_
        refine va_iald hx hb hK hP 7 0 rfl rfl (vp_in_nI (show k < 3600 from hk) (by decide)) dMd_find_40 ?_
        refine gx_top (z := (μ.A 6) k) (congrArg _ (nI_clamp (Nat.lt_trans (show k < 3600 from hk) (by decide)))) ?_
        refine lv_aload_n hx hb dMd_find_41 rfl (lv_at hl 2 rfl) ?_
        refine va_get (C := RMd) (T := TMd) (N := 25) (ci := 2) (v := .int (μ.M 2)) hx hb hg inMd hown hK hP 0 rfl rfl 5 (by decide) (hg _ f_Md_23) (fun _ h9 => h9) rfl dMd_find_42 ?_
        refine lv_icmp_ge (tgt := 80) hx hb dMd_find_45 (by decide) (fun c_45 => ?_) (fun c_45 => ?_)
        · exact absurd c_45 (Int32.not_le.mpr hage)
        · refine lv_aload_n hx hb dMd_find_48 rfl (lv_at hl 2 rfl) ?_
          refine va_get (C := RMd) (T := TMd) (N := 25) (ci := 2) (v := .ref (b 3)) hx hb hg inMd hown hK hP 0 rfl rfl 3 (by decide) (hg _ f_Md_16) (fun _ h9 => h9) rfl dMd_find_49 ?_
          refine lv_iload_n hx hb dMd_find_52 rfl (lv_at hl 0 rfl) ?_
          refine va_iald hx hb hK hP 3 0 rfl rfl (vp_in_nI (show o < 4 from ho4) (by decide)) dMd_find_53 ?_
          refine gx_top (z := (μ.A 2) o) (congrArg _ (nI_clamp (Nat.lt_trans (show o < 4 from ho4) (by decide)))) ?_
          refine lv_aload_n hx hb dMd_find_54 rfl (lv_at hl 2 rfl) ?_
          refine lv_iload_n hx hb dMd_find_55 rfl (lv_at hl 1 rfl) ?_
          refine gx_callp (C := "NurseryRowModel") (As := [.int (nI k)]) (rest := [.int ((μ.A 2) o)]) E (qMd_size l D cI cZ b μ k hk) (gx_cwV hts l_Md_110 k_Md_size ki_Md_size ke_Md_size z_Md n_Md_size ⟨by decide, by decide⟩) hK hP hD (va_recv hK hP (ci := 2) (q0 := 0) rfl rfl) hl.1 rfl rfl (Nat.le_of_ble_eq_true rfl) ⟨Nat.zero_le _, Nat.zero_le _⟩ dMd_find_56 ?_
          refine gx_top (z := 3 + μ.A 7 k + μ.A 8 k) rfl ?_
          refine lv_iadd hx hb dMd_find_59 ?_
          refine lv_aload_n hx hb dMd_find_60 rfl (lv_at hl 2 rfl) ?_
          refine va_get (C := RMd) (T := TMd) (N := 25) (ci := 2) (v := .ref (b 1)) hx hb hg inMd hown hK hP 0 rfl rfl 1 (by decide) (hg _ f_Md_7) (fun _ h9 => h9) rfl dMd_find_61 ?_
          refine lv_iload_n hx hb dMd_find_64 rfl (lv_at hl 0 rfl) ?_
          refine va_iald hx hb hK hP 1 0 rfl rfl (vp_in_nI (show o < 4 from ho4) (by decide)) dMd_find_65 ?_
          refine gx_top (z := (μ.A 0) o) (congrArg _ (nI_clamp (Nat.lt_trans (show o < 4 from ho4) (by decide)))) ?_
          refine lv_aload_n hx hb dMd_find_66 rfl (lv_at hl 2 rfl) ?_
          refine va_get (C := RMd) (T := TMd) (N := 25) (ci := 2) (v := .ref (b 2)) hx hb hg inMd hown hK hP 0 rfl rfl 2 (by decide) (hg _ f_Md_13) (fun _ h9 => h9) rfl dMd_find_67 ?_
          refine lv_iload_n hx hb dMd_find_70 rfl (lv_at hl 0 rfl) ?_
          refine va_iald hx hb hK hP 2 0 rfl rfl (vp_in_nI (show o < 4 from ho4) (by decide)) dMd_find_71 ?_
          refine gx_top (z := (μ.A 1) o) (congrArg _ (nI_clamp (Nat.lt_trans (show o < 4 from ho4) (by decide)))) ?_
          refine lv_iadd hx hb dMd_find_72 ?_
          refine lv_icmp_gt (tgt := 80) hx hb dMd_find_73 (by decide) (fun c_73 => ?_) (fun c_73 => ?_)
          · exact absurd c_73 (Int32.not_lt.mpr hrm)
          · refine lv_iconst (v := 1) hx hb dMd_find_76 (by decide) ?_
            refine lv_goto (tgt := 81) hx hb dMd_find_77 (by decide) ?_
            refine lv_istore (lv' := [(4, .int 1), (3, .int (nI o)), (2, .int (nI k)), (0, .ref (b 0)), (1, .int (nI (k + 1)))]) hx hb dMd_find_81 hl (by decide) rfl (fun ls hl => ?_)
            refine lv_iload hx hb dMd_find_83 (lv_at hl 0 rfl) ?_
            refine lv_if_eq (tgt := 92) hx hb dMd_find_85 (by decide) (fun c_85 => ?_) (fun c_85 => ?_)
            · exact absurd c_85 (by decide)
            · refine lv_iload_n hx hb dMd_find_88 rfl (lv_at hl 1 rfl) ?_
              refine lv_goto (tgt := 93) hx hb dMd_find_89 (by decide) ?_
              refine lv_istore (lv' := [(5, .int (nI o)), (4, .int 1), (3, .int (nI o)), (2, .int (nI k)), (0, .ref (b 0)), (1, .int (nI (k + 1)))]) hx hb dMd_find_93 hl (by decide) rfl (fun ls hl => ?_)
              refine lv_aload_n hx hb dMd_find_95 rfl (lv_at hl 4 rfl) ?_
              refine va_get (C := RMd) (T := TMd) (N := 25) (ci := 2) (v := .ref (b 5)) hx hb hg inMd hown hK hP 0 rfl rfl 7 (by decide) (hg _ f_Md_30) (fun _ h9 => h9) rfl dMd_find_96 ?_
              refine lv_iload_n hx hb dMd_find_99 rfl (lv_at hl 3 rfl) ?_
              refine lv_iload hx hb dMd_find_100 (lv_at hl 0 rfl) ?_
              refine va_iast hx hb hK hP hD hS 5 0 rfl rfl (vp_in_nI (show k < 3600 from hk) (by decide)) dMd_find_102 (fun H locs hP hD hS => ?_)
              rw [nI_clamp (Nat.lt_trans (show k < 3600 from hk) (by decide))] at hP hD
              rw [mdA_4] at hP hD
              refine lv_aload_n hx hb dMd_find_103 rfl (lv_at hl 4 rfl) ?_
              refine va_get (C := RMd) (T := TMd) (N := 25) (ci := 2) (v := .ref (b 6)) hx hb hg inMd hown hK hP 0 rfl rfl 8 (by decide) (hg _ f_Md_33) (fun _ h9 => h9) rfl dMd_find_104 ?_
              refine lv_iload_n hx hb dMd_find_107 rfl (lv_at hl 3 rfl) ?_
              refine lv_aload_n hx hb dMd_find_108 rfl (lv_at hl 4 rfl) ?_
              refine va_get (C := RMd) (T := TMd) (N := 25) (ci := 2) (v := .ref (b 3)) hx hb hg inMd hown hK hP 0 rfl rfl 3 (by decide) (hg _ f_Md_16) (fun _ h9 => h9) rfl dMd_find_109 ?_
              refine lv_iload hx hb dMd_find_112 (lv_at hl 0 rfl) ?_
              refine va_iald hx hb hK hP 3 0 rfl rfl (vp_in_nI (show o < 4 from ho4) (by decide)) dMd_find_114 ?_
              refine gx_top (z := (μ.A 2) o) (congrArg _ (nI_clamp (Nat.lt_trans (show o < 4 from ho4) (by decide)))) ?_
              refine va_iast hx hb hK hP hD hS 6 0 rfl rfl (vp_in_nI (show k < 3600 from hk) (by decide)) dMd_find_115 (fun H locs hP hD hS => ?_)
              rw [nI_clamp (Nat.lt_trans (show k < 3600 from hk) (by decide))] at hP hD
              rw [mdA_5] at hP hD
              refine lv_aload_n hx hb dMd_find_116 rfl (lv_at hl 4 rfl) ?_
              refine va_get (C := RMd) (T := TMd) (N := 25) (ci := 2) (v := .ref (b 3)) hx hb hg inMd hown hK hP 0 rfl rfl 3 (by decide) (hg _ f_Md_16) (fun _ h9 => h9) rfl dMd_find_117 ?_
              refine lv_iload hx hb dMd_find_120 (lv_at hl 0 rfl) ?_
              refine lv_aload_n hx hb dMd_find_122 rfl (lv_at hl 4 rfl) ?_
              refine va_get (C := RMd) (T := TMd) (N := 25) (ci := 2) (v := .ref (b 3)) hx hb hg inMd hown hK hP 0 rfl rfl 3 (by decide) (hg _ f_Md_16) (fun _ h9 => h9) rfl dMd_find_123 ?_
              refine lv_iload hx hb dMd_find_126 (lv_at hl 0 rfl) ?_
              refine va_iald hx hb hK hP 3 0 rfl rfl (vp_in_nI (show o < 4 from ho4) (by decide)) dMd_find_128 ?_
              refine gx_top (z := (μ.A 2) o) (congrArg _ (nI_clamp (Nat.lt_trans (show o < 4 from ho4) (by decide)))) ?_
              refine lv_aload_n hx hb dMd_find_129 rfl (lv_at hl 4 rfl) ?_
              refine lv_iload_n hx hb dMd_find_130 rfl (lv_at hl 3 rfl) ?_
              refine gx_callp (C := "NurseryRowModel") (As := [.int (nI k)]) (rest := [.int ((μ.A 2) o), .int (nI o), .ref (b 3)]) E (qMd_size l D cI cZ b ((μ.sA 4 (upd (μ.A 4) k (nI o))).sA 5 (upd (μ.A 5) k ((μ.A 2) o))) k hk) (gx_cwV hts l_Md_110 k_Md_size ki_Md_size ke_Md_size z_Md n_Md_size ⟨by decide, by decide⟩) hK hP hD (va_recv hK hP (ci := 2) (q0 := 0) rfl rfl) hl.1 rfl rfl (Nat.le_of_ble_eq_true rfl) ⟨Nat.zero_le _, Nat.zero_le _⟩ dMd_find_131 ?_
              refine gx_top (z := 3 + μ.A 7 k + μ.A 8 k) rfl ?_
              refine lv_iadd hx hb dMd_find_134 ?_
              refine va_iast hx hb hK hP hD hS 3 0 rfl rfl (vp_in_nI (show o < 4 from ho4) (by decide)) dMd_find_135 (fun H locs hP hD hS => ?_)
              rw [nI_clamp (Nat.lt_trans (show o < 4 from ho4) (by decide))] at hP hD
              rw [mdA_2] at hP hD
              refine lv_aload_n hx hb dMd_find_136 rfl (lv_at hl 4 rfl) ?_
              refine va_get (C := RMd) (T := TMd) (N := 25) (ci := 2) (v := .ref (b 7)) hx hb hg inMd hown hK hP 0 rfl rfl 9 (by decide) (hg _ f_Md_36) (fun _ h9 => h9) rfl dMd_find_137 ?_
              refine lv_iload_n hx hb dMd_find_140 rfl (lv_at hl 3 rfl) ?_
              refine lv_iload hx hb dMd_find_141 (lv_at hl 1 rfl) ?_
              refine lv_if_eq (tgt := 157) hx hb dMd_find_143 (by decide) (fun c_143 => ?_) (fun c_143 => ?_)
              · exact absurd c_143 (by decide)
              · refine lv_aload_n hx hb dMd_find_146 rfl (lv_at hl 4 rfl) ?_
                refine va_get (C := RMd) (T := TMd) (N := 25) (ci := 2) (v := .ref (b 7)) hx hb hg inMd hown hK hP 0 rfl rfl 9 (by decide) (hg _ f_Md_36) (fun _ h9 => h9) rfl dMd_find_147 ?_
                refine lv_iload_n hx hb dMd_find_150 rfl (lv_at hl 3 rfl) ?_
                refine va_iald hx hb hK hP 7 0 rfl rfl (vp_in_nI (show k < 3600 from hk) (by decide)) dMd_find_151 ?_
                refine gx_top (z := (μ.A 6) k) (congrArg _ (nI_clamp (Nat.lt_trans (show k < 3600 from hk) (by decide)))) ?_
                refine lv_iconst (v := 1) hx hb dMd_find_152 (by decide) ?_
                refine lv_iadd hx hb dMd_find_153 ?_
                refine lv_goto (tgt := 163) hx hb dMd_find_154 (by decide) ?_
                refine va_iast hx hb hK hP hD hS 7 0 rfl rfl (vp_in_nI (show k < 3600 from hk) (by decide)) dMd_find_163 (fun H locs hP hD hS => ?_)
                rw [nI_clamp (Nat.lt_trans (show k < 3600 from hk) (by decide))] at hP hD
                rw [mdA_6] at hP hD
                refine lv_aload_n hx hb dMd_find_164 rfl (lv_at hl 4 rfl) ?_
                refine lv_iload hx hb dMd_find_165 (lv_at hl 1 rfl) ?_
                refine lv_if_eq (tgt := 179) hx hb dMd_find_167 (by decide) (fun c_167 => ?_) (fun c_167 => ?_)
                · exact absurd c_167 (by decide)
                · refine lv_aload_n hx hb dMd_find_170 rfl (lv_at hl 4 rfl) ?_
                  refine va_get (C := RMd) (T := TMd) (N := 25) (ci := 2) (v := .int (μ.M 7)) hx hb hg inMd hown hK hP 0 rfl rfl 23 (by decide) (hg _ f_Md_82) (fun _ h9 => h9) rfl dMd_find_171 ?_
                  refine lv_iconst (v := 1) hx hb dMd_find_174 (by decide) ?_
                  refine lv_iadd hx hb dMd_find_175 ?_
                  refine lv_goto (tgt := 183) hx hb dMd_find_176 (by decide) ?_
                  refine va_put (C := RMd) (T := TMd) (N := 25) (ci := 2) (v := .int ((μ.M 7) + 1)) hx hb hg inMd tyMd tyMd_ok nmMd hown hK hP hD hS 0 rfl rfl 23 (by decide) (hg _ f_Md_82) (fun _ h9 => h9) rfl (tyMd_ok 23 (by decide)) rfl rfl (Nat.le_of_ble_eq_true rfl) dMd_find_183 (fun H locs hP hD hS => ?_)
                  rw [mdM_7] at hP hD
                  refine lv_aload_n hx hb dMd_find_186 rfl (lv_at hl 4 rfl) ?_
                  refine lv_iload hx hb dMd_find_187 (lv_at hl 1 rfl) ?_
                  refine lv_if_eq (tgt := 199) hx hb dMd_find_189 (by decide) (fun c_189 => ?_) (fun c_189 => ?_)
                  · exact absurd c_189 (by decide)
                  · refine lv_aload_n hx hb dMd_find_192 rfl (lv_at hl 4 rfl) ?_
                    refine va_get (C := RMd) (T := TMd) (N := 25) (ci := 2) (v := .int (μ.M 8)) hx hb hg inMd hown hK hP 0 rfl rfl 24 (by decide) (hg _ f_Md_85) (fun _ h9 => h9) rfl dMd_find_193 ?_
                    refine lv_goto (tgt := 205) hx hb dMd_find_196 (by decide) ?_
                    refine va_put (C := RMd) (T := TMd) (N := 25) (ci := 2) (v := .int (μ.M 8)) hx hb hg inMd tyMd tyMd_ok nmMd hown hK hP hD hS 0 rfl rfl 24 (by decide) (hg _ f_Md_85) (fun _ h9 => h9) rfl (tyMd_ok 24 (by decide)) rfl rfl (Nat.le_of_ble_eq_true rfl) dMd_find_205 (fun H locs hP hD hS => ?_)
                    rw [mdM_8] at hP hD
                    refine lv_aload_n hx hb dMd_find_208 rfl (lv_at hl 4 rfl) ?_
                    refine va_get (C := RMd) (T := TMd) (N := 25) (ci := 2) (v := .ref (b 15)) hx hb hg inMd hown hK hP 0 rfl rfl 20 (by decide) (hg _ f_Md_60) (fun _ h9 => h9) rfl dMd_find_209 ?_
                    refine lv_iload_n hx hb dMd_find_212 rfl (lv_at hl 3 rfl) ?_
                    refine lv_iconst (v := 1) hx hb dMd_find_213 (by decide) ?_
                    refine va_zast hx hb hK hP hD hS 15 1 rfl rfl (vp_in_nI (show k < 3600 from hk) (by decide)) dMd_find_214 (fun H locs hP hD hS => ?_)
                    rw [show vp_nar .boolean 1 = 1 from rfl] at hP hD
                    rw [nI_clamp (Nat.lt_trans (show k < 3600 from hk) (by decide))] at hP hD
                    rw [mdA_14] at hP hD
                    refine lv_aload_n hx hb dMd_find_215 rfl (lv_at hl 4 rfl) ?_
                    refine va_get (C := RMd) (T := TMd) (N := 25) (ci := 2) (v := .ref (b 14)) hx hb hg inMd hown hK hP 0 rfl rfl 19 (by decide) (hg _ f_Md_57) (fun _ h9 => h9) rfl dMd_find_216 ?_
                    refine lv_aload_n hx hb dMd_find_219 rfl (lv_at hl 4 rfl) ?_
                    refine va_get (C := RMd) (T := TMd) (N := 25) (ci := 2) (v := .int (μ.M 5)) hx hb hg inMd hown hK hP 0 rfl rfl 18 (by decide) (hg _ f_Md_113) (fun _ h9 => h9) rfl dMd_find_220 ?_
                    refine lv_iload_n hx hb dMd_find_223 rfl (lv_at hl 3 rfl) ?_
                    refine va_iast hx hb hK hP hD hS 14 0 rfl rfl (by rw [hnc]; exact vp_in_nI hncl (by decide)) dMd_find_224 (fun H locs hP hD hS => ?_)
                    rw [hnc, nI_clamp (show nc < 2 ^ 31 from Nat.lt_trans hncl (by decide))] at hP hD
                    rw [mdA_13] at hP hD
                    refine lv_aload_n hx hb dMd_find_225 rfl (lv_at hl 4 rfl) ?_
                    refine lv_dup hx hb dMd_find_226 rfl ?_
                    refine va_get (C := RMd) (T := TMd) (N := 25) (ci := 2) (v := .int (μ.M 5)) hx hb hg inMd hown hK hP 0 rfl rfl 18 (by decide) (hg _ f_Md_113) (fun _ h9 => h9) rfl dMd_find_227 ?_
                    refine lv_iconst (v := 1) hx hb dMd_find_230 (by decide) ?_
                    refine lv_iadd hx hb dMd_find_231 ?_
                    refine va_put (C := RMd) (T := TMd) (N := 25) (ci := 2) (v := .int ((μ.M 5) + 1)) hx hb hg inMd tyMd tyMd_ok nmMd hown hK hP hD hS 0 rfl rfl 18 (by decide) (hg _ f_Md_113) (fun _ h9 => h9) rfl (tyMd_ok 18 (by decide)) rfl rfl (Nat.le_of_ble_eq_true rfl) dMd_find_232 (fun H locs hP hD hS => ?_)
                    rw [mdM_5] at hP hD
                    exact gx_vret (u := ((((((((μ.sA 4 (upd (μ.A 4) k (nI o))).sA 5 (upd (μ.A 5) k ((μ.A 2) o))).sA 2 (upd (μ.A 2) o (((μ.A 2) o) + (3 + μ.A 7 k + μ.A 8 k)))).sA 6 (upd (μ.A 6) k (((μ.A 6) k) + 1))).sM 7 ((μ.M 7) + 1)).sM 8 (μ.M 8)).sA 14 (upd (μ.A 14) k 1)).sA 13 (upd (μ.A 13) nc (nI k))).sM 5 ((μ.M 5) + 1)) E hK hP hD hS (by unfold mvR; rfl) dMd_find_235
      · exact absurd c_24 (not_not_intro hm)
set_option maxHeartbeats 4000000 in
set_option maxRecDepth 100000 in
/-- to OLD -/
theorem qMd_find_O (l : Launch) (D : va_G) (cI cZ : ClassId) (b : Nat → Nat) (μ : mSt) (k o nc : Nat) (hk : k < 3600) (h3 : ¬ μ.A 4 k = 3) (hm : μ.A 14 k = 0) (ho : 3 - μ.M 1 = nI o) (ho4 : o < 4) (hnc : μ.M 5 = nI nc) (hncl : nc < 3600) (hst : ¬ (μ.A 6 k < μ.M 2 ∧ μ.A 2 o + (3 + μ.A 7 k + μ.A 8 k) ≤ μ.A 0 o + μ.A 1 o)) : gx_Mv l yMd_find (Cond.code yMd_find cMd_find 6 none :: gW) (gR 1) D gC (mdT cI cZ) (mdW cI cZ b) μ [.ref (b 0), .int (nI (k + 1))] (fun u => u = mvO μ k nc) := by
  refine gx_Mv.of (cc := cMd_find) (maxL := 6) (by decide) rfl (Nat.le_of_ble_eq_true rfl) ?_
  intro p e s m args below meth c ls A E hA hK hP hD hS hl
  obtain ⟨hx, hb, hr, hml, hts, hown, hlocks, hnm⟩ := id E
  have hg : ∀ w ∈ gW, w.before args s = true := fun w h => hts w (List.mem_cons_of_mem _ h)
  have hown : s.vm.findClass "NurseryRowModel" = some m.cls := hown
  have hl : lv_has ls 6 [(0, .ref (b 0)), (1, .int (nI (k + 1)))] := hl
  refine lv_iload_n hx hb dMd_find_0 rfl (lv_at hl 1 rfl) ?_
  refine lv_iconst (v := 1) hx hb dMd_find_1 (by decide) ?_
  refine lv_isub hx hb dMd_find_2 ?_
  refine gx_top (z := nI k) (nI_pred k) ?_
  refine lv_istore_n (lv' := [(2, .int (nI k)), (0, .ref (b 0)), (1, .int (nI (k + 1)))]) hx hb dMd_find_3 rfl hl (by decide) rfl (fun ls hl => ?_)
  refine lv_iload_n hx hb dMd_find_4 rfl (lv_at hl 0 rfl) ?_
  refine lv_if_lt (tgt := 27) hx hb dMd_find_5 (by decide) (fun c_5 => ?_) (fun c_5 => ?_)
  · exact absurd c_5 (nI_pos (Nat.lt_trans hk (by decide)))
  · refine lv_aload_n hx hb dMd_find_8 rfl (lv_at hl 1 rfl) ?_
    refine va_get (C := RMd) (T := TMd) (N := 25) (ci := 2) (v := .ref (b 5)) hx hb hg inMd hown hK hP 0 rfl rfl 7 (by decide) (hg _ f_Md_30) (fun _ h9 => h9) rfl dMd_find_9 ?_
    refine lv_iload_n hx hb dMd_find_12 rfl (lv_at hl 0 rfl) ?_
    refine va_iald hx hb hK hP 5 0 rfl rfl (vp_in_nI (show k < 3600 from hk) (by decide)) dMd_find_13 ?_
    refine gx_top (z := (μ.A 4) k) (congrArg _ (nI_clamp (Nat.lt_trans (show k < 3600 from hk) (by decide)))) ?_
    refine lv_iconst (v := 3) hx hb dMd_find_14 (by decide) ?_
    refine lv_icmp_eq (tgt := 27) hx hb dMd_find_15 (by decide) (fun c_15 => ?_) (fun c_15 => ?_)
    · exact absurd c_15 h3
    · refine lv_aload_n hx hb dMd_find_18 rfl (lv_at hl 1 rfl) ?_
      refine va_get (C := RMd) (T := TMd) (N := 25) (ci := 2) (v := .ref (b 15)) hx hb hg inMd hown hK hP 0 rfl rfl 20 (by decide) (hg _ f_Md_60) (fun _ h9 => h9) rfl dMd_find_19 ?_
      refine lv_iload_n hx hb dMd_find_22 rfl (lv_at hl 0 rfl) ?_
      refine va_zald hx hb hK hP 15 1 rfl rfl (vp_in_nI (show k < 3600 from hk) (by decide)) dMd_find_23 ?_
      refine gx_top (z := (μ.A 14) k) (congrArg _ (nI_clamp (Nat.lt_trans (show k < 3600 from hk) (by decide)))) ?_
      refine lv_if_eq (tgt := 28) hx hb dMd_find_24 (by decide) (fun c_24 => ?_) (fun c_24 => ?_)
      · refine lv_iconst (v := 3) hx hb dMd_find_28 (by decide) ?_
        refine lv_aload_n hx hb dMd_find_29 rfl (lv_at hl 1 rfl) ?_
        refine va_get (C := RMd) (T := TMd) (N := 25) (ci := 2) (v := .int (μ.M 1)) hx hb hg inMd hown hK hP 0 rfl rfl 4 (by decide) (hg _ f_Md_19) (fun _ h9 => h9) rfl dMd_find_30 ?_
        refine lv_isub hx hb dMd_find_33 ?_
        refine gx_top (z := nI o) ho ?_
        refine lv_istore_n (lv' := [(3, .int (nI o)), (2, .int (nI k)), (0, .ref (b 0)), (1, .int (nI (k + 1)))]) hx hb dMd_find_34 rfl hl (by decide) rfl (fun ls hl => ?_)
        refine lv_aload_n hx hb dMd_find_35 rfl (lv_at hl 2 rfl) ?_
        refine va_get (C := RMd) (T := TMd) (N := 25) (ci := 2) (v := .ref (b 7)) hx hb hg inMd hown hK hP 0 rfl rfl 9 (by decide) (hg _ f_Md_36) (fun _ h9 => h9) rfl dMd_find_36 ?_
        refine lv_iload_n hx hb dMd_find_39 rfl (lv_at hl 1 rfl) ?_
        refine va_iald hx hb hK hP 7 0 rfl rfl (vp_in_nI (show k < 3600 from hk) (by decide)) dMd_find_40 ?_
        refine gx_top (z := (μ.A 6) k) (congrArg _ (nI_clamp (Nat.lt_trans (show k < 3600 from hk) (by decide)))) ?_
        refine lv_aload_n hx hb dMd_find_41 rfl (lv_at hl 2 rfl) ?_
        refine va_get (C := RMd) (T := TMd) (N := 25) (ci := 2) (v := .int (μ.M 2)) hx hb hg inMd hown hK hP 0 rfl rfl 5 (by decide) (hg _ f_Md_23) (fun _ h9 => h9) rfl dMd_find_42 ?_
        refine lv_icmp_ge (tgt := 80) hx hb dMd_find_45 (by decide) (fun c_45 => ?_) (fun c_45 => ?_)
        · refine lv_iconst (v := 0) hx hb dMd_find_80 (by decide) ?_
          refine lv_istore (lv' := [(4, .int 0), (3, .int (nI o)), (2, .int (nI k)), (0, .ref (b 0)), (1, .int (nI (k + 1)))]) hx hb dMd_find_81 hl (by decide) rfl (fun ls hl => ?_)
          refine lv_iload hx hb dMd_find_83 (lv_at hl 0 rfl) ?_
          refine lv_if_eq (tgt := 92) hx hb dMd_find_85 (by decide) (fun c_85 => ?_) (fun c_85 => ?_)
          · refine lv_iconst (v := 3) hx hb dMd_find_92 (by decide) ?_
            refine lv_istore (lv' := [(5, .int 3), (4, .int 0), (3, .int (nI o)), (2, .int (nI k)), (0, .ref (b 0)), (1, .int (nI (k + 1)))]) hx hb dMd_find_93 hl (by decide) rfl (fun ls hl => ?_)
            refine lv_aload_n hx hb dMd_find_95 rfl (lv_at hl 4 rfl) ?_
            refine va_get (C := RMd) (T := TMd) (N := 25) (ci := 2) (v := .ref (b 5)) hx hb hg inMd hown hK hP 0 rfl rfl 7 (by decide) (hg _ f_Md_30) (fun _ h9 => h9) rfl dMd_find_96 ?_
            refine lv_iload_n hx hb dMd_find_99 rfl (lv_at hl 3 rfl) ?_
            refine lv_iload hx hb dMd_find_100 (lv_at hl 0 rfl) ?_
            refine va_iast hx hb hK hP hD hS 5 0 rfl rfl (vp_in_nI (show k < 3600 from hk) (by decide)) dMd_find_102 (fun H locs hP hD hS => ?_)
            rw [nI_clamp (Nat.lt_trans (show k < 3600 from hk) (by decide))] at hP hD
            rw [mdA_4] at hP hD
            refine lv_aload_n hx hb dMd_find_103 rfl (lv_at hl 4 rfl) ?_
            refine va_get (C := RMd) (T := TMd) (N := 25) (ci := 2) (v := .ref (b 6)) hx hb hg inMd hown hK hP 0 rfl rfl 8 (by decide) (hg _ f_Md_33) (fun _ h9 => h9) rfl dMd_find_104 ?_
            refine lv_iload_n hx hb dMd_find_107 rfl (lv_at hl 3 rfl) ?_
            refine lv_aload_n hx hb dMd_find_108 rfl (lv_at hl 4 rfl) ?_
            refine va_get (C := RMd) (T := TMd) (N := 25) (ci := 2) (v := .ref (b 3)) hx hb hg inMd hown hK hP 0 rfl rfl 3 (by decide) (hg _ f_Md_16) (fun _ h9 => h9) rfl dMd_find_109 ?_
            refine lv_iload hx hb dMd_find_112 (lv_at hl 0 rfl) ?_
            refine va_iald hx hb hK hP 3 0 rfl rfl (by unfold vp_in; decide) dMd_find_114 ?_
            refine gx_top (z := (μ.A 2) 3) rfl ?_
            refine va_iast hx hb hK hP hD hS 6 0 rfl rfl (vp_in_nI (show k < 3600 from hk) (by decide)) dMd_find_115 (fun H locs hP hD hS => ?_)
            rw [nI_clamp (Nat.lt_trans (show k < 3600 from hk) (by decide))] at hP hD
            rw [mdA_5] at hP hD
            refine lv_aload_n hx hb dMd_find_116 rfl (lv_at hl 4 rfl) ?_
            refine va_get (C := RMd) (T := TMd) (N := 25) (ci := 2) (v := .ref (b 3)) hx hb hg inMd hown hK hP 0 rfl rfl 3 (by decide) (hg _ f_Md_16) (fun _ h9 => h9) rfl dMd_find_117 ?_
            refine lv_iload hx hb dMd_find_120 (lv_at hl 0 rfl) ?_
            refine lv_aload_n hx hb dMd_find_122 rfl (lv_at hl 4 rfl) ?_
            refine va_get (C := RMd) (T := TMd) (N := 25) (ci := 2) (v := .ref (b 3)) hx hb hg inMd hown hK hP 0 rfl rfl 3 (by decide) (hg _ f_Md_16) (fun _ h9 => h9) rfl dMd_find_123 ?_
            refine lv_iload hx hb dMd_find_126 (lv_at hl 0 rfl) ?_
            refine va_iald hx hb hK hP 3 0 rfl rfl (by unfold vp_in; decide) dMd_find_128 ?_
            refine gx_top (z := (μ.A 2) 3) rfl ?_
            refine lv_aload_n hx hb dMd_find_129 rfl (lv_at hl 4 rfl) ?_
            refine lv_iload_n hx hb dMd_find_130 rfl (lv_at hl 3 rfl) ?_
            refine gx_callp (C := "NurseryRowModel") (As := [.int (nI k)]) (rest := [.int ((μ.A 2) 3), .int 3, .ref (b 3)]) E (qMd_size l D cI cZ b ((μ.sA 4 (upd (μ.A 4) k 3)).sA 5 (upd (μ.A 5) k ((μ.A 2) 3))) k hk) (gx_cwV hts l_Md_110 k_Md_size ki_Md_size ke_Md_size z_Md n_Md_size ⟨by decide, by decide⟩) hK hP hD (va_recv hK hP (ci := 2) (q0 := 0) rfl rfl) hl.1 rfl rfl (Nat.le_of_ble_eq_true rfl) ⟨Nat.zero_le _, Nat.zero_le _⟩ dMd_find_131 ?_
            refine gx_top (z := 3 + μ.A 7 k + μ.A 8 k) rfl ?_
            refine lv_iadd hx hb dMd_find_134 ?_
            refine va_iast hx hb hK hP hD hS 3 0 rfl rfl (by unfold vp_in; decide) dMd_find_135 (fun H locs hP hD hS => ?_)
            rw [show (3 : Int32).toNatClampNeg = 3 from by decide] at hP hD
            rw [mdA_2] at hP hD
            refine lv_aload_n hx hb dMd_find_136 rfl (lv_at hl 4 rfl) ?_
            refine va_get (C := RMd) (T := TMd) (N := 25) (ci := 2) (v := .ref (b 7)) hx hb hg inMd hown hK hP 0 rfl rfl 9 (by decide) (hg _ f_Md_36) (fun _ h9 => h9) rfl dMd_find_137 ?_
            refine lv_iload_n hx hb dMd_find_140 rfl (lv_at hl 3 rfl) ?_
            refine lv_iload hx hb dMd_find_141 (lv_at hl 1 rfl) ?_
            refine lv_if_eq (tgt := 157) hx hb dMd_find_143 (by decide) (fun c_143 => ?_) (fun c_143 => ?_)
            · refine lv_aload_n hx hb dMd_find_157 rfl (lv_at hl 4 rfl) ?_
              refine va_get (C := RMd) (T := TMd) (N := 25) (ci := 2) (v := .ref (b 7)) hx hb hg inMd hown hK hP 0 rfl rfl 9 (by decide) (hg _ f_Md_36) (fun _ h9 => h9) rfl dMd_find_158 ?_
              refine lv_iload_n hx hb dMd_find_161 rfl (lv_at hl 3 rfl) ?_
              refine va_iald hx hb hK hP 7 0 rfl rfl (vp_in_nI (show k < 3600 from hk) (by decide)) dMd_find_162 ?_
              refine gx_top (z := (μ.A 6) k) (congrArg _ (nI_clamp (Nat.lt_trans (show k < 3600 from hk) (by decide)))) ?_
              refine va_iast hx hb hK hP hD hS 7 0 rfl rfl (vp_in_nI (show k < 3600 from hk) (by decide)) dMd_find_163 (fun H locs hP hD hS => ?_)
              rw [nI_clamp (Nat.lt_trans (show k < 3600 from hk) (by decide))] at hP hD
              rw [mdA_6] at hP hD
              refine lv_aload_n hx hb dMd_find_164 rfl (lv_at hl 4 rfl) ?_
              refine lv_iload hx hb dMd_find_165 (lv_at hl 1 rfl) ?_
              refine lv_if_eq (tgt := 179) hx hb dMd_find_167 (by decide) (fun c_167 => ?_) (fun c_167 => ?_)
              · refine lv_aload_n hx hb dMd_find_179 rfl (lv_at hl 4 rfl) ?_
                refine va_get (C := RMd) (T := TMd) (N := 25) (ci := 2) (v := .int (μ.M 7)) hx hb hg inMd hown hK hP 0 rfl rfl 23 (by decide) (hg _ f_Md_82) (fun _ h9 => h9) rfl dMd_find_180 ?_
                refine va_put (C := RMd) (T := TMd) (N := 25) (ci := 2) (v := .int (μ.M 7)) hx hb hg inMd tyMd tyMd_ok nmMd hown hK hP hD hS 0 rfl rfl 23 (by decide) (hg _ f_Md_82) (fun _ h9 => h9) rfl (tyMd_ok 23 (by decide)) rfl rfl (Nat.le_of_ble_eq_true rfl) dMd_find_183 (fun H locs hP hD hS => ?_)
                rw [mdM_7] at hP hD
                refine lv_aload_n hx hb dMd_find_186 rfl (lv_at hl 4 rfl) ?_
                refine lv_iload hx hb dMd_find_187 (lv_at hl 1 rfl) ?_
                refine lv_if_eq (tgt := 199) hx hb dMd_find_189 (by decide) (fun c_189 => ?_) (fun c_189 => ?_)
                · refine lv_aload_n hx hb dMd_find_199 rfl (lv_at hl 4 rfl) ?_
                  refine va_get (C := RMd) (T := TMd) (N := 25) (ci := 2) (v := .int (μ.M 8)) hx hb hg inMd hown hK hP 0 rfl rfl 24 (by decide) (hg _ f_Md_85) (fun _ h9 => h9) rfl dMd_find_200 ?_
                  refine lv_iconst (v := 1) hx hb dMd_find_203 (by decide) ?_
                  refine lv_iadd hx hb dMd_find_204 ?_
                  refine va_put (C := RMd) (T := TMd) (N := 25) (ci := 2) (v := .int ((μ.M 8) + 1)) hx hb hg inMd tyMd tyMd_ok nmMd hown hK hP hD hS 0 rfl rfl 24 (by decide) (hg _ f_Md_85) (fun _ h9 => h9) rfl (tyMd_ok 24 (by decide)) rfl rfl (Nat.le_of_ble_eq_true rfl) dMd_find_205 (fun H locs hP hD hS => ?_)
                  rw [mdM_8] at hP hD
                  refine lv_aload_n hx hb dMd_find_208 rfl (lv_at hl 4 rfl) ?_
                  refine va_get (C := RMd) (T := TMd) (N := 25) (ci := 2) (v := .ref (b 15)) hx hb hg inMd hown hK hP 0 rfl rfl 20 (by decide) (hg _ f_Md_60) (fun _ h9 => h9) rfl dMd_find_209 ?_
                  refine lv_iload_n hx hb dMd_find_212 rfl (lv_at hl 3 rfl) ?_
                  refine lv_iconst (v := 1) hx hb dMd_find_213 (by decide) ?_
                  refine va_zast hx hb hK hP hD hS 15 1 rfl rfl (vp_in_nI (show k < 3600 from hk) (by decide)) dMd_find_214 (fun H locs hP hD hS => ?_)
                  rw [show vp_nar .boolean 1 = 1 from rfl] at hP hD
                  rw [nI_clamp (Nat.lt_trans (show k < 3600 from hk) (by decide))] at hP hD
                  rw [mdA_14] at hP hD
                  refine lv_aload_n hx hb dMd_find_215 rfl (lv_at hl 4 rfl) ?_
                  refine va_get (C := RMd) (T := TMd) (N := 25) (ci := 2) (v := .ref (b 14)) hx hb hg inMd hown hK hP 0 rfl rfl 19 (by decide) (hg _ f_Md_57) (fun _ h9 => h9) rfl dMd_find_216 ?_
                  refine lv_aload_n hx hb dMd_find_219 rfl (lv_at hl 4 rfl) ?_
                  refine va_get (C := RMd) (T := TMd) (N := 25) (ci := 2) (v := .int (μ.M 5)) hx hb hg inMd hown hK hP 0 rfl rfl 18 (by decide) (hg _ f_Md_113) (fun _ h9 => h9) rfl dMd_find_220 ?_
                  refine lv_iload_n hx hb dMd_find_223 rfl (lv_at hl 3 rfl) ?_
                  refine va_iast hx hb hK hP hD hS 14 0 rfl rfl (by rw [hnc]; exact vp_in_nI hncl (by decide)) dMd_find_224 (fun H locs hP hD hS => ?_)
                  rw [hnc, nI_clamp (show nc < 2 ^ 31 from Nat.lt_trans hncl (by decide))] at hP hD
                  rw [mdA_13] at hP hD
                  refine lv_aload_n hx hb dMd_find_225 rfl (lv_at hl 4 rfl) ?_
                  refine lv_dup hx hb dMd_find_226 rfl ?_
                  refine va_get (C := RMd) (T := TMd) (N := 25) (ci := 2) (v := .int (μ.M 5)) hx hb hg inMd hown hK hP 0 rfl rfl 18 (by decide) (hg _ f_Md_113) (fun _ h9 => h9) rfl dMd_find_227 ?_
                  refine lv_iconst (v := 1) hx hb dMd_find_230 (by decide) ?_
                  refine lv_iadd hx hb dMd_find_231 ?_
                  refine va_put (C := RMd) (T := TMd) (N := 25) (ci := 2) (v := .int ((μ.M 5) + 1)) hx hb hg inMd tyMd tyMd_ok nmMd hown hK hP hD hS 0 rfl rfl 18 (by decide) (hg _ f_Md_113) (fun _ h9 => h9) rfl (tyMd_ok 18 (by decide)) rfl rfl (Nat.le_of_ble_eq_true rfl) dMd_find_232 (fun H locs hP hD hS => ?_)
                  rw [mdM_5] at hP hD
                  exact gx_vret (u := ((((((((μ.sA 4 (upd (μ.A 4) k 3)).sA 5 (upd (μ.A 5) k ((μ.A 2) 3))).sA 2 (upd (μ.A 2) 3 (((μ.A 2) 3) + (3 + μ.A 7 k + μ.A 8 k)))).sA 6 (upd (μ.A 6) k ((μ.A 6) k))).sM 7 (μ.M 7)).sM 8 ((μ.M 8) + 1)).sA 14 (upd (μ.A 14) k 1)).sA 13 (upd (μ.A 13) nc (nI k))).sM 5 ((μ.M 5) + 1)) E hK hP hD hS (by unfold mvO; rfl) dMd_find_235
                · exact absurd c_189 (by decide)
              · exact absurd c_167 (by decide)
            · exact absurd c_143 (by decide)
          · exact absurd c_85 (by decide)
        · refine lv_aload_n hx hb dMd_find_48 rfl (lv_at hl 2 rfl) ?_
          refine va_get (C := RMd) (T := TMd) (N := 25) (ci := 2) (v := .ref (b 3)) hx hb hg inMd hown hK hP 0 rfl rfl 3 (by decide) (hg _ f_Md_16) (fun _ h9 => h9) rfl dMd_find_49 ?_
          refine lv_iload_n hx hb dMd_find_52 rfl (lv_at hl 0 rfl) ?_
          refine va_iald hx hb hK hP 3 0 rfl rfl (vp_in_nI (show o < 4 from ho4) (by decide)) dMd_find_53 ?_
          refine gx_top (z := (μ.A 2) o) (congrArg _ (nI_clamp (Nat.lt_trans (show o < 4 from ho4) (by decide)))) ?_
          refine lv_aload_n hx hb dMd_find_54 rfl (lv_at hl 2 rfl) ?_
          refine lv_iload_n hx hb dMd_find_55 rfl (lv_at hl 1 rfl) ?_
          refine gx_callp (C := "NurseryRowModel") (As := [.int (nI k)]) (rest := [.int ((μ.A 2) o)]) E (qMd_size l D cI cZ b μ k hk) (gx_cwV hts l_Md_110 k_Md_size ki_Md_size ke_Md_size z_Md n_Md_size ⟨by decide, by decide⟩) hK hP hD (va_recv hK hP (ci := 2) (q0 := 0) rfl rfl) hl.1 rfl rfl (Nat.le_of_ble_eq_true rfl) ⟨Nat.zero_le _, Nat.zero_le _⟩ dMd_find_56 ?_
          refine gx_top (z := 3 + μ.A 7 k + μ.A 8 k) rfl ?_
          refine lv_iadd hx hb dMd_find_59 ?_
          refine lv_aload_n hx hb dMd_find_60 rfl (lv_at hl 2 rfl) ?_
          refine va_get (C := RMd) (T := TMd) (N := 25) (ci := 2) (v := .ref (b 1)) hx hb hg inMd hown hK hP 0 rfl rfl 1 (by decide) (hg _ f_Md_7) (fun _ h9 => h9) rfl dMd_find_61 ?_
          refine lv_iload_n hx hb dMd_find_64 rfl (lv_at hl 0 rfl) ?_
          refine va_iald hx hb hK hP 1 0 rfl rfl (vp_in_nI (show o < 4 from ho4) (by decide)) dMd_find_65 ?_
          refine gx_top (z := (μ.A 0) o) (congrArg _ (nI_clamp (Nat.lt_trans (show o < 4 from ho4) (by decide)))) ?_
          refine lv_aload_n hx hb dMd_find_66 rfl (lv_at hl 2 rfl) ?_
          refine va_get (C := RMd) (T := TMd) (N := 25) (ci := 2) (v := .ref (b 2)) hx hb hg inMd hown hK hP 0 rfl rfl 2 (by decide) (hg _ f_Md_13) (fun _ h9 => h9) rfl dMd_find_67 ?_
          refine lv_iload_n hx hb dMd_find_70 rfl (lv_at hl 0 rfl) ?_
          refine va_iald hx hb hK hP 2 0 rfl rfl (vp_in_nI (show o < 4 from ho4) (by decide)) dMd_find_71 ?_
          refine gx_top (z := (μ.A 1) o) (congrArg _ (nI_clamp (Nat.lt_trans (show o < 4 from ho4) (by decide)))) ?_
          refine lv_iadd hx hb dMd_find_72 ?_
          refine lv_icmp_gt (tgt := 80) hx hb dMd_find_73 (by decide) (fun c_73 => ?_) (fun c_73 => ?_)
          · refine lv_iconst (v := 0) hx hb dMd_find_80 (by decide) ?_
            refine lv_istore (lv' := [(4, .int 0), (3, .int (nI o)), (2, .int (nI k)), (0, .ref (b 0)), (1, .int (nI (k + 1)))]) hx hb dMd_find_81 hl (by decide) rfl (fun ls hl => ?_)
            refine lv_iload hx hb dMd_find_83 (lv_at hl 0 rfl) ?_
            refine lv_if_eq (tgt := 92) hx hb dMd_find_85 (by decide) (fun c_85 => ?_) (fun c_85 => ?_)
            · refine lv_iconst (v := 3) hx hb dMd_find_92 (by decide) ?_
              refine lv_istore (lv' := [(5, .int 3), (4, .int 0), (3, .int (nI o)), (2, .int (nI k)), (0, .ref (b 0)), (1, .int (nI (k + 1)))]) hx hb dMd_find_93 hl (by decide) rfl (fun ls hl => ?_)
              refine lv_aload_n hx hb dMd_find_95 rfl (lv_at hl 4 rfl) ?_
              refine va_get (C := RMd) (T := TMd) (N := 25) (ci := 2) (v := .ref (b 5)) hx hb hg inMd hown hK hP 0 rfl rfl 7 (by decide) (hg _ f_Md_30) (fun _ h9 => h9) rfl dMd_find_96 ?_
              refine lv_iload_n hx hb dMd_find_99 rfl (lv_at hl 3 rfl) ?_
              refine lv_iload hx hb dMd_find_100 (lv_at hl 0 rfl) ?_
              refine va_iast hx hb hK hP hD hS 5 0 rfl rfl (vp_in_nI (show k < 3600 from hk) (by decide)) dMd_find_102 (fun H locs hP hD hS => ?_)
              rw [nI_clamp (Nat.lt_trans (show k < 3600 from hk) (by decide))] at hP hD
              rw [mdA_4] at hP hD
              refine lv_aload_n hx hb dMd_find_103 rfl (lv_at hl 4 rfl) ?_
              refine va_get (C := RMd) (T := TMd) (N := 25) (ci := 2) (v := .ref (b 6)) hx hb hg inMd hown hK hP 0 rfl rfl 8 (by decide) (hg _ f_Md_33) (fun _ h9 => h9) rfl dMd_find_104 ?_
              refine lv_iload_n hx hb dMd_find_107 rfl (lv_at hl 3 rfl) ?_
              refine lv_aload_n hx hb dMd_find_108 rfl (lv_at hl 4 rfl) ?_
              refine va_get (C := RMd) (T := TMd) (N := 25) (ci := 2) (v := .ref (b 3)) hx hb hg inMd hown hK hP 0 rfl rfl 3 (by decide) (hg _ f_Md_16) (fun _ h9 => h9) rfl dMd_find_109 ?_
              refine lv_iload hx hb dMd_find_112 (lv_at hl 0 rfl) ?_
              refine va_iald hx hb hK hP 3 0 rfl rfl (by unfold vp_in; decide) dMd_find_114 ?_
              refine gx_top (z := (μ.A 2) 3) rfl ?_
              refine va_iast hx hb hK hP hD hS 6 0 rfl rfl (vp_in_nI (show k < 3600 from hk) (by decide)) dMd_find_115 (fun H locs hP hD hS => ?_)
              rw [nI_clamp (Nat.lt_trans (show k < 3600 from hk) (by decide))] at hP hD
              rw [mdA_5] at hP hD
              refine lv_aload_n hx hb dMd_find_116 rfl (lv_at hl 4 rfl) ?_
              refine va_get (C := RMd) (T := TMd) (N := 25) (ci := 2) (v := .ref (b 3)) hx hb hg inMd hown hK hP 0 rfl rfl 3 (by decide) (hg _ f_Md_16) (fun _ h9 => h9) rfl dMd_find_117 ?_
              refine lv_iload hx hb dMd_find_120 (lv_at hl 0 rfl) ?_
              refine lv_aload_n hx hb dMd_find_122 rfl (lv_at hl 4 rfl) ?_
              refine va_get (C := RMd) (T := TMd) (N := 25) (ci := 2) (v := .ref (b 3)) hx hb hg inMd hown hK hP 0 rfl rfl 3 (by decide) (hg _ f_Md_16) (fun _ h9 => h9) rfl dMd_find_123 ?_
              refine lv_iload hx hb dMd_find_126 (lv_at hl 0 rfl) ?_
              refine va_iald hx hb hK hP 3 0 rfl rfl (by unfold vp_in; decide) dMd_find_128 ?_
              refine gx_top (z := (μ.A 2) 3) rfl ?_
              refine lv_aload_n hx hb dMd_find_129 rfl (lv_at hl 4 rfl) ?_
              refine lv_iload_n hx hb dMd_find_130 rfl (lv_at hl 3 rfl) ?_
              refine gx_callp (C := "NurseryRowModel") (As := [.int (nI k)]) (rest := [.int ((μ.A 2) 3), .int 3, .ref (b 3)]) E (qMd_size l D cI cZ b ((μ.sA 4 (upd (μ.A 4) k 3)).sA 5 (upd (μ.A 5) k ((μ.A 2) 3))) k hk) (gx_cwV hts l_Md_110 k_Md_size ki_Md_size ke_Md_size z_Md n_Md_size ⟨by decide, by decide⟩) hK hP hD (va_recv hK hP (ci := 2) (q0 := 0) rfl rfl) hl.1 rfl rfl (Nat.le_of_ble_eq_true rfl) ⟨Nat.zero_le _, Nat.zero_le _⟩ dMd_find_131 ?_
              refine gx_top (z := 3 + μ.A 7 k + μ.A 8 k) rfl ?_
              refine lv_iadd hx hb dMd_find_134 ?_
              refine va_iast hx hb hK hP hD hS 3 0 rfl rfl (by unfold vp_in; decide) dMd_find_135 (fun H locs hP hD hS => ?_)
              rw [show (3 : Int32).toNatClampNeg = 3 from by decide] at hP hD
              rw [mdA_2] at hP hD
              refine lv_aload_n hx hb dMd_find_136 rfl (lv_at hl 4 rfl) ?_
              refine va_get (C := RMd) (T := TMd) (N := 25) (ci := 2) (v := .ref (b 7)) hx hb hg inMd hown hK hP 0 rfl rfl 9 (by decide) (hg _ f_Md_36) (fun _ h9 => h9) rfl dMd_find_137 ?_
              refine lv_iload_n hx hb dMd_find_140 rfl (lv_at hl 3 rfl) ?_
              refine lv_iload hx hb dMd_find_141 (lv_at hl 1 rfl) ?_
              refine lv_if_eq (tgt := 157) hx hb dMd_find_143 (by decide) (fun c_143 => ?_) (fun c_143 => ?_)
              · refine lv_aload_n hx hb dMd_find_157 rfl (lv_at hl 4 rfl) ?_
                refine va_get (C := RMd) (T := TMd) (N := 25) (ci := 2) (v := .ref (b 7)) hx hb hg inMd hown hK hP 0 rfl rfl 9 (by decide) (hg _ f_Md_36) (fun _ h9 => h9) rfl dMd_find_158 ?_
                refine lv_iload_n hx hb dMd_find_161 rfl (lv_at hl 3 rfl) ?_
                refine va_iald hx hb hK hP 7 0 rfl rfl (vp_in_nI (show k < 3600 from hk) (by decide)) dMd_find_162 ?_
                refine gx_top (z := (μ.A 6) k) (congrArg _ (nI_clamp (Nat.lt_trans (show k < 3600 from hk) (by decide)))) ?_
                refine va_iast hx hb hK hP hD hS 7 0 rfl rfl (vp_in_nI (show k < 3600 from hk) (by decide)) dMd_find_163 (fun H locs hP hD hS => ?_)
                rw [nI_clamp (Nat.lt_trans (show k < 3600 from hk) (by decide))] at hP hD
                rw [mdA_6] at hP hD
                refine lv_aload_n hx hb dMd_find_164 rfl (lv_at hl 4 rfl) ?_
                refine lv_iload hx hb dMd_find_165 (lv_at hl 1 rfl) ?_
                refine lv_if_eq (tgt := 179) hx hb dMd_find_167 (by decide) (fun c_167 => ?_) (fun c_167 => ?_)
                · refine lv_aload_n hx hb dMd_find_179 rfl (lv_at hl 4 rfl) ?_
                  refine va_get (C := RMd) (T := TMd) (N := 25) (ci := 2) (v := .int (μ.M 7)) hx hb hg inMd hown hK hP 0 rfl rfl 23 (by decide) (hg _ f_Md_82) (fun _ h9 => h9) rfl dMd_find_180 ?_
                  refine va_put (C := RMd) (T := TMd) (N := 25) (ci := 2) (v := .int (μ.M 7)) hx hb hg inMd tyMd tyMd_ok nmMd hown hK hP hD hS 0 rfl rfl 23 (by decide) (hg _ f_Md_82) (fun _ h9 => h9) rfl (tyMd_ok 23 (by decide)) rfl rfl (Nat.le_of_ble_eq_true rfl) dMd_find_183 (fun H locs hP hD hS => ?_)
                  rw [mdM_7] at hP hD
                  refine lv_aload_n hx hb dMd_find_186 rfl (lv_at hl 4 rfl) ?_
                  refine lv_iload hx hb dMd_find_187 (lv_at hl 1 rfl) ?_
                  refine lv_if_eq (tgt := 199) hx hb dMd_find_189 (by decide) (fun c_189 => ?_) (fun c_189 => ?_)
                  · refine lv_aload_n hx hb dMd_find_199 rfl (lv_at hl 4 rfl) ?_
                    refine va_get (C := RMd) (T := TMd) (N := 25) (ci := 2) (v := .int (μ.M 8)) hx hb hg inMd hown hK hP 0 rfl rfl 24 (by decide) (hg _ f_Md_85) (fun _ h9 => h9) rfl dMd_find_200 ?_
                    refine lv_iconst (v := 1) hx hb dMd_find_203 (by decide) ?_
                    refine lv_iadd hx hb dMd_find_204 ?_
                    refine va_put (C := RMd) (T := TMd) (N := 25) (ci := 2) (v := .int ((μ.M 8) + 1)) hx hb hg inMd tyMd tyMd_ok nmMd hown hK hP hD hS 0 rfl rfl 24 (by decide) (hg _ f_Md_85) (fun _ h9 => h9) rfl (tyMd_ok 24 (by decide)) rfl rfl (Nat.le_of_ble_eq_true rfl) dMd_find_205 (fun H locs hP hD hS => ?_)
                    rw [mdM_8] at hP hD
                    refine lv_aload_n hx hb dMd_find_208 rfl (lv_at hl 4 rfl) ?_
                    refine va_get (C := RMd) (T := TMd) (N := 25) (ci := 2) (v := .ref (b 15)) hx hb hg inMd hown hK hP 0 rfl rfl 20 (by decide) (hg _ f_Md_60) (fun _ h9 => h9) rfl dMd_find_209 ?_
                    refine lv_iload_n hx hb dMd_find_212 rfl (lv_at hl 3 rfl) ?_
                    refine lv_iconst (v := 1) hx hb dMd_find_213 (by decide) ?_
                    refine va_zast hx hb hK hP hD hS 15 1 rfl rfl (vp_in_nI (show k < 3600 from hk) (by decide)) dMd_find_214 (fun H locs hP hD hS => ?_)
                    rw [show vp_nar .boolean 1 = 1 from rfl] at hP hD
                    rw [nI_clamp (Nat.lt_trans (show k < 3600 from hk) (by decide))] at hP hD
                    rw [mdA_14] at hP hD
                    refine lv_aload_n hx hb dMd_find_215 rfl (lv_at hl 4 rfl) ?_
                    refine va_get (C := RMd) (T := TMd) (N := 25) (ci := 2) (v := .ref (b 14)) hx hb hg inMd hown hK hP 0 rfl rfl 19 (by decide) (hg _ f_Md_57) (fun _ h9 => h9) rfl dMd_find_216 ?_
                    refine lv_aload_n hx hb dMd_find_219 rfl (lv_at hl 4 rfl) ?_
                    refine va_get (C := RMd) (T := TMd) (N := 25) (ci := 2) (v := .int (μ.M 5)) hx hb hg inMd hown hK hP 0 rfl rfl 18 (by decide) (hg _ f_Md_113) (fun _ h9 => h9) rfl dMd_find_220 ?_
                    refine lv_iload_n hx hb dMd_find_223 rfl (lv_at hl 3 rfl) ?_
                    refine va_iast hx hb hK hP hD hS 14 0 rfl rfl (by rw [hnc]; exact vp_in_nI hncl (by decide)) dMd_find_224 (fun H locs hP hD hS => ?_)
                    rw [hnc, nI_clamp (show nc < 2 ^ 31 from Nat.lt_trans hncl (by decide))] at hP hD
                    rw [mdA_13] at hP hD
                    refine lv_aload_n hx hb dMd_find_225 rfl (lv_at hl 4 rfl) ?_
                    refine lv_dup hx hb dMd_find_226 rfl ?_
                    refine va_get (C := RMd) (T := TMd) (N := 25) (ci := 2) (v := .int (μ.M 5)) hx hb hg inMd hown hK hP 0 rfl rfl 18 (by decide) (hg _ f_Md_113) (fun _ h9 => h9) rfl dMd_find_227 ?_
                    refine lv_iconst (v := 1) hx hb dMd_find_230 (by decide) ?_
                    refine lv_iadd hx hb dMd_find_231 ?_
                    refine va_put (C := RMd) (T := TMd) (N := 25) (ci := 2) (v := .int ((μ.M 5) + 1)) hx hb hg inMd tyMd tyMd_ok nmMd hown hK hP hD hS 0 rfl rfl 18 (by decide) (hg _ f_Md_113) (fun _ h9 => h9) rfl (tyMd_ok 18 (by decide)) rfl rfl (Nat.le_of_ble_eq_true rfl) dMd_find_232 (fun H locs hP hD hS => ?_)
                    rw [mdM_5] at hP hD
                    exact gx_vret (u := ((((((((μ.sA 4 (upd (μ.A 4) k 3)).sA 5 (upd (μ.A 5) k ((μ.A 2) 3))).sA 2 (upd (μ.A 2) 3 (((μ.A 2) 3) + (3 + μ.A 7 k + μ.A 8 k)))).sA 6 (upd (μ.A 6) k ((μ.A 6) k))).sM 7 (μ.M 7)).sM 8 ((μ.M 8) + 1)).sA 14 (upd (μ.A 14) k 1)).sA 13 (upd (μ.A 13) nc (nI k))).sM 5 ((μ.M 5) + 1)) E hK hP hD hS (by unfold mvO; rfl) dMd_find_235
                  · exact absurd c_189 (by decide)
                · exact absurd c_167 (by decide)
              · exact absurd c_143 (by decide)
            · exact absurd c_85 (by decide)
          · exact (hst ⟨Int32.not_le.mp c_45, Int32.not_lt.mp c_73⟩).elim
      · exact absurd c_24 (not_not_intro hm)
/-- what 'find' does; o: the other row -/
def Fnd (o : Nat) (μ : mSt) (v : Int32) (u : mSt) : Prop :=
  (v = 0 ∧ u = μ) ∨ (∃ k, k < 3600 ∧ v = nI (k + 1) ∧ μ.A 4 k = 3 ∧ u = μ) ∨ (∃ k, k < 3600 ∧ v = nI (k + 1) ∧ ¬ μ.A 4 k = 3 ∧ ¬ μ.A 14 k = 0 ∧ u = μ) ∨
  (∃ k nc, k < 3600 ∧ v = nI (k + 1) ∧ ¬ μ.A 4 k = 3 ∧ μ.A 14 k = 0 ∧ μ.M 5 = nI nc ∧ nc < 3600 ∧ μ.A 6 k < μ.M 2 ∧ (μ.A 2 o + (3 + μ.A 7 k + μ.A 8 k) ≤ μ.A 0 o + μ.A 1 o) ∧ u = mvR μ o k nc) ∨
  (∃ k nc, k < 3600 ∧ v = nI (k + 1) ∧ ¬ μ.A 4 k = 3 ∧ μ.A 14 k = 0 ∧ μ.M 5 = nI nc ∧ nc < 3600 ∧ ¬ (μ.A 6 k < μ.M 2 ∧ μ.A 2 o + (3 + μ.A 7 k + μ.A 8 k) ≤ μ.A 0 o + μ.A 1 o) ∧ u = mvO μ k nc)
theorem qMd_find (l : Launch) (D : va_G) (cI cZ : ClassId) (b : Nat → Nat) (μ : mSt) (o : Nat) (v : Int32) (u0 : mSt) (hF : Fnd o μ v u0) (ho : 3 - μ.M 1 = nI o) (ho4 : o < 4) : gx_Mv l yMd_find (Cond.code yMd_find cMd_find 6 none :: gW) (gR 1) D gC (mdT cI cZ) (mdW cI cZ b) μ [.ref (b 0), .int v] (fun u => u = u0) := by
  rcases hF with ⟨rfl, rfl⟩ | ⟨k, hk, rfl, h3, rfl⟩ | ⟨k, hk, rfl, h3, hm, rfl⟩ | ⟨k, nc, hk, rfl, h3, hm, hnc, hncl, hage, hrm, rfl⟩ | ⟨k, nc, hk, rfl, h3, hm, hnc, hncl, hst, rfl⟩
  · exact qMd_find_0 l D cI cZ b _
  · exact qMd_find_1 l D cI cZ b _ k hk h3
  · exact qMd_find_2 l D cI cZ b _ k hk h3 hm
  · exact qMd_find_R l D cI cZ b μ k o nc hk h3 hm ho ho4 hnc hncl hage hrm
  · exact qMd_find_O l D cI cZ b μ k o nc hk h3 hm ho ho4 hnc hncl hst
/-- what a search never touches -/
def fKp (μ u : mSt) : Prop := u.A 0 = μ.A 0 ∧ u.A 1 = μ.A 1 ∧ u.A 3 = μ.A 3 ∧ u.A 7 = μ.A 7 ∧ u.A 8 = μ.A 8 ∧ u.A 9 = μ.A 9 ∧ u.A 10 = μ.A 10 ∧ u.A 11 = μ.A 11 ∧ u.A 12 = μ.A 12 ∧ u.A 15 = μ.A 15 ∧ u.M 0 = μ.M 0 ∧ u.M 1 = μ.M 1 ∧ u.M 2 = μ.M 2 ∧ u.M 3 = μ.M 3 ∧ u.M 4 = μ.M 4 ∧ u.M 6 = μ.M 6
theorem fKp.rfl' (μ : mSt) : fKp μ μ := ⟨rfl, rfl, rfl, rfl, rfl, rfl, rfl, rfl, rfl, rfl, rfl, rfl, rfl, rfl, rfl, rfl⟩
theorem fKp.trans {a b c : mSt} (h : fKp a b) (k : fKp b c) : fKp a c := by
  obtain ⟨h0, h1, h2, h3, h4, h5, h6, h7, h8, h9, ha, hb, hc, hd, he, hf⟩ := h
  obtain ⟨k0, k1, k2, k3, k4, k5, k6, k7, k8, k9, ka, kb, kc, kd, ke, kf⟩ := k
  exact ⟨k0.trans h0, k1.trans h1, k2.trans h2, k3.trans h3, k4.trans h4, k5.trans h5, k6.trans h6, k7.trans h7, k8.trans h8, k9.trans h9, ka.trans ha, kb.trans hb, kc.trans hc, kd.trans hd, ke.trans he, kf.trans hf⟩
theorem Fnd.kept {o : Nat} {μ : mSt} {v : Int32} {u : mSt} (h : Fnd o μ v u) : fKp μ u := by
  rcases h with ⟨-, rfl⟩ | ⟨k, -, -, -, rfl⟩ | ⟨k, -, -, -, -, rfl⟩ | ⟨k, nc, -, -, -, -, -, -, -, -, rfl⟩ | ⟨k, nc, -, -, -, -, -, -, -, rfl⟩
  · exact fKp.rfl' _
  · exact fKp.rfl' _
  · exact fKp.rfl' _
  · exact ⟨rfl, rfl, rfl, rfl, rfl, rfl, rfl, rfl, rfl, rfl, rfl, rfl, rfl, rfl, rfl, rfl⟩
  · exact ⟨rfl, rfl, rfl, rfl, rfl, rfl, rfl, rfl, rfl, rfl, rfl, rfl, rfl, rfl, rfl, rfl⟩
theorem fKp.o {o : Nat} {μ u : mSt} (h : fKp μ u) (ho : 3 - μ.M 1 = nI o) : 3 - u.M 1 = nI o := by rw [h.2.2.2.2.2.2.2.2.2.2.2.1]; exact ho
/-- n numbers from place i on -/
def FndN (o : Nat) : Nat → Nat → mSt → mSt → Prop
  | 0, _, μ, u => u = μ
  | n + 1, i, μ, u => ∃ v : mSt, Fnd o μ (μ.A 10 i) v ∧ FndN o n (i + 1) v u
theorem FndN.kept {o : Nat} : ∀ {n i : Nat} {μ u : mSt}, FndN o n i μ u → fKp μ u
  | 0, _, _, _, h => by cases h; exact fKp.rfl' _
  | n + 1, i, μ, u, ⟨v, h1, h2⟩ => h1.kept.trans (FndN.kept h2)
set_option maxHeartbeats 4000000 in
set_option maxRecDepth 100000 in
/-- the fields of number k -/
theorem qMd_findFields (l : Launch) (D : va_G) (cI cZ : ClassId) (b : Nat → Nat) (μ : mSt) (o k nf st : Nat) (u0 : mSt) (hk : k < 3600) (h7 : μ.A 7 k = nI nf) (h9 : μ.A 9 k = nI st) (hb : st + nf ≤ 24000) (hev : FndN o nf st μ u0) (ho : 3 - μ.M 1 = nI o) (ho4 : o < 4) : gx_Mv l yMd_findFields (Cond.code yMd_findFields cMd_findFields 3 none :: gW) (gR 2) D gC (mdT cI cZ) (mdW cI cZ b) μ [.ref (b 0), .int (nI k)] (fun u => u = u0) := by
  refine gx_Mv.of (cc := cMd_findFields) (maxL := 3) (by decide) rfl (Nat.le_of_ble_eq_true rfl) ?_
  intro p e s m args below meth c ls A E hA hK hP hD hS hl
  obtain ⟨hx, hb, hr, hml, hts, hown, hlocks, hnm⟩ := id E
  have hg : ∀ w ∈ gW, w.before args s = true := fun w h => hts w (List.mem_cons_of_mem _ h)
  have hown : s.vm.findClass "NurseryRowModel" = some m.cls := hown
  have hl : lv_has ls 3 [(0, .ref (b 0)), (1, .int (nI k))] := hl
  refine lv_iconst (v := 0) hx hb dMd_findFields_0 (by decide) ?_
  refine lv_istore_n (lv' := [(2, .int 0), (0, .ref (b 0)), (1, .int (nI k))]) hx hb dMd_findFields_1 rfl hl (by decide) rfl (fun ls hl => ?_)
  have key : ∀ (n : Nat) (t : Nat) (τ : mSt) (H : Heap) (locs : List Loc) (ls : Array Slot), (t + n = nf) → (FndN o n (st + t) τ u0) → (fKp μ τ) → va_P D gC (mdW cI cZ b (τ)) H → va_D A (mdW cI cZ b (τ)) → va_S A s.heap H locs → lv_has ls 3 [(0, .ref (b 0)), (1, .int (nI k)), (2, .int (nI t))] → W p l e (gR 2) s m args below meth c H locs 0 0 (MQ below (va_Qv (fun u => u = u0) (gx_B D gC (mdT cI cZ) (mdW cI cZ b) A) A) args s 0 0 A) (F0 m 2 ls []) := by
    intro n
    induction n with
    | zero =>
      intro t τ H locs ls hte hev hkp hP hD hS hl
      have hev : u0 = τ := hev
      have e7 : τ.A 7 k = nI nf := by rw [hkp.2.2.2.1]; exact h7
      refine lv_iload_n hx hb dMd_findFields_2 rfl (lv_at hl 2 rfl) ?_
      refine lv_aload_n hx hb dMd_findFields_3 rfl (lv_at hl 0 rfl) ?_
      refine va_get (C := RMd) (T := TMd) (N := 25) (ci := 2) (v := .ref (b 8)) hx hb hg inMd hown hK hP 0 rfl rfl 10 (by decide) (hg _ f_Md_39) (fun _ h9 => h9) rfl dMd_findFields_4 ?_
      refine lv_iload_n hx hb dMd_findFields_7 rfl (lv_at hl 1 rfl) ?_
      refine va_iald hx hb hK hP 8 0 rfl rfl (vp_in_nI (show k < 3600 from hk) (by decide)) dMd_findFields_8 ?_
      refine gx_top (z := (τ.A 7) k) (congrArg _ (nI_clamp (Nat.lt_trans (show k < 3600 from hk) (by decide)))) ?_
      refine gx_top (z := nI nf) e7 ?_
      refine lv_icmp_ge (tgt := 35) hx hb dMd_findFields_9 (by decide) (fun c_9 => ?_) (fun c_9 => ?_)
      · exact gx_vret (u := τ) E hK hP hD hS hev.symm dMd_findFields_35
      · exact absurd c_9 (not_not_intro (nI_le (by omega) (by omega)))
    | succ n ih =>
      intro t τ H locs ls hte hev hkp hP hD hS hl
      obtain ⟨v, hfo, hev⟩ := hev
      have e7 : τ.A 7 k = nI nf := by rw [hkp.2.2.2.1]; exact h7
      have e9 : τ.A 9 k = nI st := by rw [hkp.2.2.2.2.2.1]; exact h9
      refine lv_iload_n hx hb dMd_findFields_2 rfl (lv_at hl 2 rfl) ?_
      refine lv_aload_n hx hb dMd_findFields_3 rfl (lv_at hl 0 rfl) ?_
      refine va_get (C := RMd) (T := TMd) (N := 25) (ci := 2) (v := .ref (b 8)) hx hb hg inMd hown hK hP 0 rfl rfl 10 (by decide) (hg _ f_Md_39) (fun _ h9 => h9) rfl dMd_findFields_4 ?_
      refine lv_iload_n hx hb dMd_findFields_7 rfl (lv_at hl 1 rfl) ?_
      refine va_iald hx hb hK hP 8 0 rfl rfl (vp_in_nI (show k < 3600 from hk) (by decide)) dMd_findFields_8 ?_
      refine gx_top (z := (τ.A 7) k) (congrArg _ (nI_clamp (Nat.lt_trans (show k < 3600 from hk) (by decide)))) ?_
      refine gx_top (z := nI nf) e7 ?_
      refine lv_icmp_ge (tgt := 35) hx hb dMd_findFields_9 (by decide) (fun c_9 => ?_) (fun c_9 => ?_)
      · exact absurd c_9 (nI_ge (by omega) (by omega))
      · refine lv_aload_n hx hb dMd_findFields_12 rfl (lv_at hl 0 rfl) ?_
        refine lv_aload_n hx hb dMd_findFields_13 rfl (lv_at hl 0 rfl) ?_
        refine va_get (C := RMd) (T := TMd) (N := 25) (ci := 2) (v := .ref (b 11)) hx hb hg inMd hown hK hP 0 rfl rfl 14 (by decide) (hg _ f_Md_48) (fun _ h9 => h9) rfl dMd_findFields_14 ?_
        refine lv_aload_n hx hb dMd_findFields_17 rfl (lv_at hl 0 rfl) ?_
        refine va_get (C := RMd) (T := TMd) (N := 25) (ci := 2) (v := .ref (b 10)) hx hb hg inMd hown hK hP 0 rfl rfl 12 (by decide) (hg _ f_Md_45) (fun _ h9 => h9) rfl dMd_findFields_18 ?_
        refine lv_iload_n hx hb dMd_findFields_21 rfl (lv_at hl 1 rfl) ?_
        refine va_iald hx hb hK hP 10 0 rfl rfl (vp_in_nI (show k < 3600 from hk) (by decide)) dMd_findFields_22 ?_
        refine gx_top (z := (τ.A 9) k) (congrArg _ (nI_clamp (Nat.lt_trans (show k < 3600 from hk) (by decide)))) ?_
        refine lv_iload_n hx hb dMd_findFields_23 rfl (lv_at hl 2 rfl) ?_
        refine lv_iadd hx hb dMd_findFields_24 ?_
        refine gx_top (z := nI (st + t)) (by rw [e9, nI_add]) ?_
        refine va_iald hx hb hK hP 11 0 rfl rfl (vp_in_nI (show st + t < 24000 from (by omega)) (by decide)) dMd_findFields_25 ?_
        refine gx_top (z := (τ.A 10) (st + t)) (congrArg _ (nI_clamp (Nat.lt_trans (show st + t < 24000 from (by omega)) (by decide)))) ?_
        refine gx_callv (C := "NurseryRowModel") (As := [.int ((τ.A 10) (st + t))]) (rest := []) E (qMd_find l D cI cZ b τ o ((τ.A 10) (st + t)) v hfo (hkp.o ho) ho4) (gx_cwV hts l_Md_116 k_Md_find ki_Md_find ke_Md_find z_Md n_Md_find ⟨by decide, by decide⟩) hK hP hD hS hA (va_recv hK hP (ci := 2) (q0 := 0) rfl rfl) hl.1 rfl rfl (Nat.le_of_ble_eq_true rfl) ⟨by decide, by decide⟩ dMd_findFields_26 (fun u_2 H locs hq_3 hP hD hS => ?_)
        subst hq_3
        refine lv_iinc (v := nI (t + 1)) (lv' := [(2, .int (nI (t + 1))), (0, .ref (b 0)), (1, .int (nI k))]) hx hb dMd_findFields_29 hl (k := 2) rfl (by rw [← nI_1]; rfl) (by decide) rfl (fun ls hl => ?_)
        refine lv_goto (tgt := 2) hx hb dMd_findFields_32 (by decide) ?_
        exact ih (t + 1) _ H locs ls (by omega) hev (hkp.trans hfo.kept) hP hD hS (lv_sub hl [1, 2, 0] rfl)
  exact key nf 0 μ _ _ ls (Nat.zero_add _) hev (fKp.rfl' _) hP hD hS (lv_sub hl [1, 2, 0] rfl)
