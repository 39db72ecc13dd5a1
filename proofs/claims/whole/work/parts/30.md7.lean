/-! THE REFERENCE: collect -/
def FndR (o : Nat) : Nat → Nat → mSt → mSt → Prop
  | 0, _, μ, u => u = μ
  | n + 1, i, μ, u => ∃ v : mSt, Fnd o μ (μ.A 15 i) v ∧ FndR o n (i + 1) v u
theorem FndR.kept {o : Nat} : ∀ {n i : Nat} {μ u : mSt}, FndR o n i μ u → fKp μ u
  | 0, _, _, _, h => by cases h; exact fKp.rfl' _
  | n + 1, i, μ, u, ⟨v, h1, h2⟩ => h1.kept.trans (FndR.kept h2)
def FndO (o : Nat) : Nat → Nat → mSt → mSt → Prop
  | 0, _, μ, u => u = μ
  | n + 1, i, μ, u => ∃ (k nf st : Nat) (v : mSt), i < 3600 ∧ μ.A 12 i = nI k ∧ k < 3600 ∧ μ.A 7 k = nI nf ∧ μ.A 9 k = nI st ∧ st + nf ≤ 24000 ∧ FndN o nf st μ v ∧ FndO o n (i + 1) v u
theorem FndO.kept {o : Nat} : ∀ {n i : Nat} {μ u : mSt}, FndO o n i μ u → fKp μ u
  | 0, _, _, _, h => by cases h; exact fKp.rfl' _
  | n + 1, i, μ, u, ⟨_, _, _, v, _, _, _, _, _, _, h1, h2⟩ => h1.kept.trans (FndO.kept h2)
def FndC (o : Nat) : Nat → Nat → mSt → mSt → Prop
  | 0, i, μ, u => i ≤ 3600 ∧ μ.M 5 = nI i ∧ u = μ
  | n + 1, i, μ, u => ∃ (nc k nf st : Nat) (v : mSt), μ.M 5 = nI nc ∧ i < nc ∧ nc ≤ 3600 ∧ μ.A 13 i = nI k ∧ k < 3600 ∧ μ.A 7 k = nI nf ∧ μ.A 9 k = nI st ∧ st + nf ≤ 24000 ∧ FndN o nf st μ v ∧ FndC o n (i + 1) v u
theorem FndC.kept {o : Nat} : ∀ {n i : Nat} {μ u : mSt}, FndC o n i μ u → fKp μ u
  | 0, _, _, _, ⟨_, _, h⟩ => by cases h; exact fKp.rfl' _
  | n + 1, i, μ, u, ⟨_, _, _, _, v, _, _, _, _, _, _, _, _, h1, h2⟩ => h1.kept.trans (FndC.kept h2)
/-- who is still there -/
def thF (μ : mSt) (t : Nat) : Nat → Int32 := fun j => if j < t then (if ¬ μ.A 3 j = 0 ∧ (μ.A 4 j = 3 ∨ ¬ μ.A 14 j = 0) then 1 else 0) else μ.A 3 j
theorem thF_0 (μ : mSt) : thF μ 0 = μ.A 3 := funext fun j => by simp only [thF]; rw [if_neg (by omega)]
theorem thF_at (μ : mSt) (t : Nat) : thF μ t t = μ.A 3 t := by simp only [thF]; rw [if_neg (by omega)]
theorem thF_1 (μ : mSt) (t : Nat) {v : Int32} (hv : v = (if ¬ μ.A 3 t = 0 ∧ (μ.A 4 t = 3 ∨ ¬ μ.A 14 t = 0) then 1 else 0)) : upd (thF μ t) t v = thF μ (t + 1) := funext fun j => by
  simp only [thF, upd]
  by_cases e : j = t
  · rw [if_pos e, if_pos (by omega), e, hv]
  · rw [if_neg e]
    by_cases q : j < t
    · have q2 : j < t + 1 := by omega
      rw [if_pos q, if_pos q2]
    · rw [if_neg q, if_neg (by omega)]
/-- the old ones, with the copies that went to OLD behind them -/
def ofF (μ : mSt) (m0 : Nat) : Nat → (Nat → Int32) × Nat
  | 0 => (μ.A 12, m0)
  | t + 1 => if μ.A 4 (μ.A 13 t).toNatClampNeg = 3 then (upd (ofF μ m0 t).1 (ofF μ m0 t).2 (μ.A 13 t), (ofF μ m0 t).2 + 1) else ofF μ m0 t
theorem ofF_y1 {μ : mSt} {m0 t : Nat} (h : μ.A 4 (μ.A 13 t).toNatClampNeg = 3) : (ofF μ m0 (t + 1)).1 = upd (ofF μ m0 t).1 (ofF μ m0 t).2 (μ.A 13 t) := by simp only [ofF]; rw [if_pos h]
theorem ofF_y2 {μ : mSt} {m0 t : Nat} (h : μ.A 4 (μ.A 13 t).toNatClampNeg = 3) : (ofF μ m0 (t + 1)).2 = (ofF μ m0 t).2 + 1 := by simp only [ofF]; rw [if_pos h]
theorem ofF_n {μ : mSt} {m0 t : Nat} (h : ¬ μ.A 4 (μ.A 13 t).toNatClampNeg = 3) : ofF μ m0 (t + 1) = ofF μ m0 t := by simp only [ofF]; rw [if_neg h]
theorem ofF_le (μ : mSt) (m0 : Nat) : ∀ t, m0 ≤ (ofF μ m0 t).2 ∧ (ofF μ m0 t).2 ≤ m0 + t
  | 0 => ⟨Nat.le_refl _, Nat.le_refl _⟩
  | t + 1 => by
    have ih := ofF_le μ m0 t
    by_cases h : μ.A 4 (μ.A 13 t).toNatClampNeg = 3
    · rw [ofF_y2 h]; omega
    · rw [ofF_n h]; omega
theorem mdO_a (cI cZ : ClassId) (b : Nat → Nat) (μ : mSt) (f g : Nat → Int32) (v w : Int32) : mdW cI cZ b ((((μ.sA 12 f).sM 4 v).sA 12 g).sM 4 w) = mdW cI cZ b ((μ.sA 12 g).sM 4 w) := rfl
theorem mdO_b (cI cZ : ClassId) (b : Nat → Nat) (μ : mSt) : mdW cI cZ b ((μ.sA 12 (μ.A 12)).sM 4 (μ.M 4)) = mdW cI cZ b μ := rfl
theorem mdO_c (μ : mSt) (f : Nat → Int32) (v : Int32) : ((μ.sA 12 f).sM 4 v).A 12 = f := rfl
def col00 (μ : mSt) (o : Nat) : mSt := ((μ.sM 0 0).sM 5 0).sA 2 (upd (μ.A 2) o (μ.A 0 o))
def col0 (μ : mSt) (o : Nat) : mSt := (col00 μ o).sA 14 (fillF ((col00 μ o).A 14) 0 3600 0)
def col4 (μ : mSt) : mSt := μ.sA 3 (thF μ 3600)
def col5 (μ : mSt) (m0 nc : Nat) : mSt := ((col4 μ).sA 12 (ofF (col4 μ) m0 nc).1).sM 4 (nI (ofF (col4 μ) m0 nc).2)
def col6 (μ : mSt) (rw : Nat) : mSt := ((μ.sA 2 (upd (upd (μ.A 2) 0 (μ.A 0 0)) rw (μ.A 0 rw))).sM 1 (3 - μ.M 1)).sM 6 (μ.M 6 + 1)
/-- the reference's collection, its evidence -/
def ColM (μ : mSt) (rw o : Nat) (r : Int32) (u : mSt) : Prop :=
  ∃ (n3 nC nc : Nat) (v1 v2 v3 : mSt), μ.M 4 = nI n3 ∧ FndR o 16 0 (col0 μ o) v1 ∧ FndO o n3 0 v1 v2 ∧ FndC o nC 0 v2 v3 ∧ v3.M 5 = nI nc ∧ n3 + nc ≤ 3600 ∧ (∀ i, i < nc → ∃ k, k < 3600 ∧ v3.A 13 i = nI k) ∧ TdH (col6 (col5 v3 n3 nc) rw) ∧ r = nI nc ∧ u = tidM (col6 (col5 v3 n3 nc) rw)
set_option maxHeartbeats 4000000 in
set_option maxRecDepth 100000 in
/-- a collection (it throws) -/
theorem qMd_collect_no (l : Launch) (D : va_G) (cI cZ : ClassId) (b : Nat → Nat) (μ : mSt) (rw : Nat) (hrow : μ.M 1 = nI rw) (hrw4 : rw < 4) (hno : ¬ (¬ (μ.A 0 3 + μ.A 1 3 - μ.A 2 3 < μ.A 2 0 - μ.A 0 0 + μ.A 2 rw - μ.A 0 rw))) : gx_Mi l yMd_collect (Cond.code yMd_collect cMd_collect 3 (some .int) :: gW) (gR 3) D gC (mdT cI cZ) (mdW cI cZ b) μ [.ref (b 0)] (fun r u => r = 0 ∧ u = μ.sM 0 1) := by
  refine gx_Mi.of (cc := cMd_collect) (maxL := 3) (ret := (some .int)) (by decide) rfl (Nat.le_of_ble_eq_true rfl) ?_
  intro p e s m args below meth c ls A E hA hK hP hD hS hl
  obtain ⟨hx, hb, hr, hml, hts, hown, hlocks, hnm⟩ := id E
  have hg : ∀ w ∈ gW, w.before args s = true := fun w h => hts w (List.mem_cons_of_mem _ h)
  have hown : s.vm.findClass "NurseryRowModel" = some m.cls := hown
  have hl : lv_has ls 3 [(0, .ref (b 0))] := hl
  refine lv_aload_n hx hb dMd_collect_0 rfl (lv_at hl 0 rfl) ?_
  refine va_get (C := RMd) (T := TMd) (N := 25) (ci := 2) (v := .ref (b 3)) hx hb hg inMd hown hK hP 0 rfl rfl 3 (by decide) (hg _ f_Md_16) (fun _ h9 => h9) rfl dMd_collect_1 ?_
  refine lv_iconst (v := 0) hx hb dMd_collect_4 (by decide) ?_
  refine va_iald hx hb hK hP 3 0 rfl rfl (by unfold vp_in; decide) dMd_collect_5 ?_
  refine gx_top (z := (μ.A 2) 0) rfl ?_
  refine lv_aload_n hx hb dMd_collect_6 rfl (lv_at hl 0 rfl) ?_
  refine va_get (C := RMd) (T := TMd) (N := 25) (ci := 2) (v := .ref (b 1)) hx hb hg inMd hown hK hP 0 rfl rfl 1 (by decide) (hg _ f_Md_7) (fun _ h9 => h9) rfl dMd_collect_7 ?_
  refine lv_iconst (v := 0) hx hb dMd_collect_10 (by decide) ?_
  refine va_iald hx hb hK hP 1 0 rfl rfl (by unfold vp_in; decide) dMd_collect_11 ?_
  refine gx_top (z := (μ.A 0) 0) rfl ?_
  refine lv_isub hx hb dMd_collect_12 ?_
  refine lv_aload_n hx hb dMd_collect_13 rfl (lv_at hl 0 rfl) ?_
  refine va_get (C := RMd) (T := TMd) (N := 25) (ci := 2) (v := .ref (b 3)) hx hb hg inMd hown hK hP 0 rfl rfl 3 (by decide) (hg _ f_Md_16) (fun _ h9 => h9) rfl dMd_collect_14 ?_
  refine lv_aload_n hx hb dMd_collect_17 rfl (lv_at hl 0 rfl) ?_
  refine va_get (C := RMd) (T := TMd) (N := 25) (ci := 2) (v := .int (μ.M 1)) hx hb hg inMd hown hK hP 0 rfl rfl 4 (by decide) (hg _ f_Md_19) (fun _ h9 => h9) rfl dMd_collect_18 ?_
  refine va_iald hx hb hK hP 3 0 rfl rfl (by rw [show (μ.M 1) = nI rw from hrow]; exact vp_in_nI hrw4 (by decide)) dMd_collect_21 ?_
  refine gx_top (z := (μ.A 2) rw) (congrArg _ (by rw [show (μ.M 1) = nI rw from hrow]; exact nI_clamp (Nat.lt_trans hrw4 (by decide)))) ?_
  refine lv_iadd hx hb dMd_collect_22 ?_
  refine lv_aload_n hx hb dMd_collect_23 rfl (lv_at hl 0 rfl) ?_
  refine va_get (C := RMd) (T := TMd) (N := 25) (ci := 2) (v := .ref (b 1)) hx hb hg inMd hown hK hP 0 rfl rfl 1 (by decide) (hg _ f_Md_7) (fun _ h9 => h9) rfl dMd_collect_24 ?_
  refine lv_aload_n hx hb dMd_collect_27 rfl (lv_at hl 0 rfl) ?_
  refine va_get (C := RMd) (T := TMd) (N := 25) (ci := 2) (v := .int (μ.M 1)) hx hb hg inMd hown hK hP 0 rfl rfl 4 (by decide) (hg _ f_Md_19) (fun _ h9 => h9) rfl dMd_collect_28 ?_
  refine va_iald hx hb hK hP 1 0 rfl rfl (by rw [show (μ.M 1) = nI rw from hrow]; exact vp_in_nI hrw4 (by decide)) dMd_collect_31 ?_
  refine gx_top (z := (μ.A 0) rw) (congrArg _ (by rw [show (μ.M 1) = nI rw from hrow]; exact nI_clamp (Nat.lt_trans hrw4 (by decide)))) ?_
  refine lv_isub hx hb dMd_collect_32 ?_
  refine lv_istore_n (lv' := [(1, .int (((((μ.A 2) 0) - ((μ.A 0) 0)) + ((μ.A 2) rw)) - ((μ.A 0) rw))), (0, .ref (b 0))]) hx hb dMd_collect_33 rfl hl (by decide) rfl (fun ls hl => ?_)
  refine lv_aload_n hx hb dMd_collect_34 rfl (lv_at hl 1 rfl) ?_
  refine lv_iload_n hx hb dMd_collect_35 rfl (lv_at hl 0 rfl) ?_
  refine lv_aload_n hx hb dMd_collect_36 rfl (lv_at hl 1 rfl) ?_
  refine va_get (C := RMd) (T := TMd) (N := 25) (ci := 2) (v := .ref (b 1)) hx hb hg inMd hown hK hP 0 rfl rfl 1 (by decide) (hg _ f_Md_7) (fun _ h9 => h9) rfl dMd_collect_37 ?_
  refine lv_iconst (v := 3) hx hb dMd_collect_40 (by decide) ?_
  refine va_iald hx hb hK hP 1 0 rfl rfl (by unfold vp_in; decide) dMd_collect_41 ?_
  refine gx_top (z := (μ.A 0) 3) rfl ?_
  refine lv_aload_n hx hb dMd_collect_42 rfl (lv_at hl 1 rfl) ?_
  refine va_get (C := RMd) (T := TMd) (N := 25) (ci := 2) (v := .ref (b 2)) hx hb hg inMd hown hK hP 0 rfl rfl 2 (by decide) (hg _ f_Md_13) (fun _ h9 => h9) rfl dMd_collect_43 ?_
  refine lv_iconst (v := 3) hx hb dMd_collect_46 (by decide) ?_
  refine va_iald hx hb hK hP 2 0 rfl rfl (by unfold vp_in; decide) dMd_collect_47 ?_
  refine gx_top (z := (μ.A 1) 3) rfl ?_
  refine lv_iadd hx hb dMd_collect_48 ?_
  refine lv_aload_n hx hb dMd_collect_49 rfl (lv_at hl 1 rfl) ?_
  refine va_get (C := RMd) (T := TMd) (N := 25) (ci := 2) (v := .ref (b 3)) hx hb hg inMd hown hK hP 0 rfl rfl 3 (by decide) (hg _ f_Md_16) (fun _ h9 => h9) rfl dMd_collect_50 ?_
  refine lv_iconst (v := 3) hx hb dMd_collect_53 (by decide) ?_
  refine va_iald hx hb hK hP 3 0 rfl rfl (by unfold vp_in; decide) dMd_collect_54 ?_
  refine gx_top (z := (μ.A 2) 3) rfl ?_
  refine lv_isub hx hb dMd_collect_55 ?_
  refine lv_icmp_gt (tgt := 63) hx hb dMd_collect_56 (by decide) (fun c_56 => ?_) (fun c_56 => ?_)
  · refine lv_iconst (v := 0) hx hb dMd_collect_63 (by decide) ?_
    refine lv_iconst (v := 1) hx hb dMd_collect_64 (by decide) ?_
    refine gx_calli (C := "NurseryRowModel") (As := [.int 0, .int 1]) (rest := []) E (qMd_goes l D cI cZ b μ 0 1) (gx_cwV hts l_Md_88 k_Md_goes ki_Md_goes ke_Md_goes z_Md n_Md_goes ⟨by decide, by decide⟩) hK hP hD hS hA (va_recv hK hP (ci := 2) (q0 := 0) rfl rfl) hl.1 rfl rfl (Nat.le_of_ble_eq_true rfl) ⟨by decide, by decide⟩ dMd_collect_65 (fun r_1 u_2 H locs hq_3 hP hD hS => ?_)
    obtain ⟨hr1, hu1⟩ := hq_3
    have hr1 : r_1 = 0 := hr1
    have hu1 : u_2 = μ.sM 0 1 := hu1
    subst hr1; subst hu1
    refine lv_if_ne (tgt := 73) hx hb dMd_collect_68 (by decide) (fun c_68 => ?_) (fun c_68 => ?_)
    · exact absurd c_68 (by decide)
    · refine lv_iconst (v := 0) hx hb dMd_collect_71 (by decide) ?_
      exact gx_iret (u := μ.sM 0 1) E hK hP hD hS ⟨rfl, rfl⟩ dMd_collect_72
  · exact (hno c_56).elim
set_option maxHeartbeats 4000000 in
set_option maxRecDepth 100000 in
/-- a collection -/
theorem qMd_collect_ok (l : Launch) (D : va_G) (cI cZ : ClassId) (b : Nat → Nat) (μ : mSt) (rw o : Nat) (r0 : Int32) (u0 : mSt) (hev0 : ColM μ rw o r0 u0) (hrow : μ.M 1 = nI rw) (hrw4 : rw < 4) (ho : 3 - μ.M 1 = nI o) (ho4 : o < 4) (hok : ¬ (μ.A 0 3 + μ.A 1 3 - μ.A 2 3 < μ.A 2 0 - μ.A 0 0 + μ.A 2 rw - μ.A 0 rw)) : gx_Mi l yMd_collect (Cond.code yMd_collect cMd_collect 3 (some .int) :: gW) (gR 3) D gC (mdT cI cZ) (mdW cI cZ b) μ [.ref (b 0)] (fun r u => r = r0 ∧ u = u0) := by
  refine gx_Mi.of (cc := cMd_collect) (maxL := 3) (ret := (some .int)) (by decide) rfl (Nat.le_of_ble_eq_true rfl) ?_
  intro p e s m args below meth c ls A E hA hK hP hD hS hl
  obtain ⟨hx, hb, hr, hml, hts, hown, hlocks, hnm⟩ := id E
  have hg : ∀ w ∈ gW, w.before args s = true := fun w h => hts w (List.mem_cons_of_mem _ h)
  have hown : s.vm.findClass "NurseryRowModel" = some m.cls := hown
  have hl : lv_has ls 3 [(0, .ref (b 0))] := hl
  refine lv_aload_n hx hb dMd_collect_0 rfl (lv_at hl 0 rfl) ?_
  refine va_get (C := RMd) (T := TMd) (N := 25) (ci := 2) (v := .ref (b 3)) hx hb hg inMd hown hK hP 0 rfl rfl 3 (by decide) (hg _ f_Md_16) (fun _ h9 => h9) rfl dMd_collect_1 ?_
  refine lv_iconst (v := 0) hx hb dMd_collect_4 (by decide) ?_
  refine va_iald hx hb hK hP 3 0 rfl rfl (by unfold vp_in; decide) dMd_collect_5 ?_
  refine gx_top (z := (μ.A 2) 0) rfl ?_
  refine lv_aload_n hx hb dMd_collect_6 rfl (lv_at hl 0 rfl) ?_
  refine va_get (C := RMd) (T := TMd) (N := 25) (ci := 2) (v := .ref (b 1)) hx hb hg inMd hown hK hP 0 rfl rfl 1 (by decide) (hg _ f_Md_7) (fun _ h9 => h9) rfl dMd_collect_7 ?_
  refine lv_iconst (v := 0) hx hb dMd_collect_10 (by decide) ?_
  refine va_iald hx hb hK hP 1 0 rfl rfl (by unfold vp_in; decide) dMd_collect_11 ?_
  refine gx_top (z := (μ.A 0) 0) rfl ?_
  refine lv_isub hx hb dMd_collect_12 ?_
  refine lv_aload_n hx hb dMd_collect_13 rfl (lv_at hl 0 rfl) ?_
  refine va_get (C := RMd) (T := TMd) (N := 25) (ci := 2) (v := .ref (b 3)) hx hb hg inMd hown hK hP 0 rfl rfl 3 (by decide) (hg _ f_Md_16) (fun _ h9 => h9) rfl dMd_collect_14 ?_
  refine lv_aload_n hx hb dMd_collect_17 rfl (lv_at hl 0 rfl) ?_
  refine va_get (C := RMd) (T := TMd) (N := 25) (ci := 2) (v := .int (μ.M 1)) hx hb hg inMd hown hK hP 0 rfl rfl 4 (by decide) (hg _ f_Md_19) (fun _ h9 => h9) rfl dMd_collect_18 ?_
  refine va_iald hx hb hK hP 3 0 rfl rfl (by rw [show (μ.M 1) = nI rw from hrow]; exact vp_in_nI hrw4 (by decide)) dMd_collect_21 ?_
  refine gx_top (z := (μ.A 2) rw) (congrArg _ (by rw [show (μ.M 1) = nI rw from hrow]; exact nI_clamp (Nat.lt_trans hrw4 (by decide)))) ?_
  refine lv_iadd hx hb dMd_collect_22 ?_
  refine lv_aload_n hx hb dMd_collect_23 rfl (lv_at hl 0 rfl) ?_
  refine va_get (C := RMd) (T := TMd) (N := 25) (ci := 2) (v := .ref (b 1)) hx hb hg inMd hown hK hP 0 rfl rfl 1 (by decide) (hg _ f_Md_7) (fun _ h9 => h9) rfl dMd_collect_24 ?_
  refine lv_aload_n hx hb dMd_collect_27 rfl (lv_at hl 0 rfl) ?_
  refine va_get (C := RMd) (T := TMd) (N := 25) (ci := 2) (v := .int (μ.M 1)) hx hb hg inMd hown hK hP 0 rfl rfl 4 (by decide) (hg _ f_Md_19) (fun _ h9 => h9) rfl dMd_collect_28 ?_
  refine va_iald hx hb hK hP 1 0 rfl rfl (by rw [show (μ.M 1) = nI rw from hrow]; exact vp_in_nI hrw4 (by decide)) dMd_collect_31 ?_
  refine gx_top (z := (μ.A 0) rw) (congrArg _ (by rw [show (μ.M 1) = nI rw from hrow]; exact nI_clamp (Nat.lt_trans hrw4 (by decide)))) ?_
  refine lv_isub hx hb dMd_collect_32 ?_
  refine lv_istore_n (lv' := [(1, .int (((((μ.A 2) 0) - ((μ.A 0) 0)) + ((μ.A 2) rw)) - ((μ.A 0) rw))), (0, .ref (b 0))]) hx hb dMd_collect_33 rfl hl (by decide) rfl (fun ls hl => ?_)
  refine lv_aload_n hx hb dMd_collect_34 rfl (lv_at hl 1 rfl) ?_
  refine lv_iload_n hx hb dMd_collect_35 rfl (lv_at hl 0 rfl) ?_
  refine lv_aload_n hx hb dMd_collect_36 rfl (lv_at hl 1 rfl) ?_
  refine va_get (C := RMd) (T := TMd) (N := 25) (ci := 2) (v := .ref (b 1)) hx hb hg inMd hown hK hP 0 rfl rfl 1 (by decide) (hg _ f_Md_7) (fun _ h9 => h9) rfl dMd_collect_37 ?_
  refine lv_iconst (v := 3) hx hb dMd_collect_40 (by decide) ?_
  refine va_iald hx hb hK hP 1 0 rfl rfl (by unfold vp_in; decide) dMd_collect_41 ?_
  refine gx_top (z := (μ.A 0) 3) rfl ?_
  refine lv_aload_n hx hb dMd_collect_42 rfl (lv_at hl 1 rfl) ?_
  refine va_get (C := RMd) (T := TMd) (N := 25) (ci := 2) (v := .ref (b 2)) hx hb hg inMd hown hK hP 0 rfl rfl 2 (by decide) (hg _ f_Md_13) (fun _ h9 => h9) rfl dMd_collect_43 ?_
  refine lv_iconst (v := 3) hx hb dMd_collect_46 (by decide) ?_
  refine va_iald hx hb hK hP 2 0 rfl rfl (by unfold vp_in; decide) dMd_collect_47 ?_
  refine gx_top (z := (μ.A 1) 3) rfl ?_
  refine lv_iadd hx hb dMd_collect_48 ?_
  refine lv_aload_n hx hb dMd_collect_49 rfl (lv_at hl 1 rfl) ?_
  refine va_get (C := RMd) (T := TMd) (N := 25) (ci := 2) (v := .ref (b 3)) hx hb hg inMd hown hK hP 0 rfl rfl 3 (by decide) (hg _ f_Md_16) (fun _ h9 => h9) rfl dMd_collect_50 ?_
  refine lv_iconst (v := 3) hx hb dMd_collect_53 (by decide) ?_
  refine va_iald hx hb hK hP 3 0 rfl rfl (by unfold vp_in; decide) dMd_collect_54 ?_
  refine gx_top (z := (μ.A 2) 3) rfl ?_
  refine lv_isub hx hb dMd_collect_55 ?_
  refine lv_icmp_gt (tgt := 63) hx hb dMd_collect_56 (by decide) (fun c_56 => ?_) (fun c_56 => ?_)
  · exact absurd c_56 hok
  · refine lv_iconst (v := 1) hx hb dMd_collect_59 (by decide) ?_
    refine lv_goto (tgt := 64) hx hb dMd_collect_60 (by decide) ?_
    refine lv_iconst (v := 1) hx hb dMd_collect_64 (by decide) ?_
    refine gx_calli (C := "NurseryRowModel") (As := [.int 1, .int 1]) (rest := []) E (qMd_goes l D cI cZ b μ 1 1) (gx_cwV hts l_Md_88 k_Md_goes ki_Md_goes ke_Md_goes z_Md n_Md_goes ⟨by decide, by decide⟩) hK hP hD hS hA (va_recv hK hP (ci := 2) (q0 := 0) rfl rfl) hl.1 rfl rfl (Nat.le_of_ble_eq_true rfl) ⟨by decide, by decide⟩ dMd_collect_65 (fun r_1 u_2 H locs hq_3 hP hD hS => ?_)
    obtain ⟨hr1, hu1⟩ := hq_3
    have hr1 : r_1 = 1 := hr1
    have hu1 : u_2 = μ.sM 0 0 := hu1
    subst hr1; subst hu1
    refine lv_if_ne (tgt := 73) hx hb dMd_collect_68 (by decide) (fun c_68 => ?_) (fun c_68 => ?_)
    · refine lv_aload_n hx hb dMd_collect_73 rfl (lv_at hl 1 rfl) ?_
      refine lv_iconst (v := 0) hx hb dMd_collect_74 (by decide) ?_
      refine va_put (C := RMd) (T := TMd) (N := 25) (ci := 2) (v := .int 0) hx hb hg inMd tyMd tyMd_ok nmMd hown hK hP hD hS 0 rfl rfl 18 (by decide) (hg _ f_Md_113) (fun _ h9 => h9) rfl (tyMd_ok 18 (by decide)) rfl rfl (Nat.le_of_ble_eq_true rfl) dMd_collect_75 (fun H locs hP hD hS => ?_)
      rw [mdM_5] at hP hD
      refine lv_aload_n hx hb dMd_collect_78 rfl (lv_at hl 1 rfl) ?_
      refine va_get (C := RMd) (T := TMd) (N := 25) (ci := 2) (v := .ref (b 3)) hx hb hg inMd hown hK hP 0 rfl rfl 3 (by decide) (hg _ f_Md_16) (fun _ h9 => h9) rfl dMd_collect_79 ?_
      refine lv_iconst (v := 3) hx hb dMd_collect_82 (by decide) ?_
      refine lv_aload_n hx hb dMd_collect_83 rfl (lv_at hl 1 rfl) ?_
      refine va_get (C := RMd) (T := TMd) (N := 25) (ci := 2) (v := .int (μ.M 1)) hx hb hg inMd hown hK hP 0 rfl rfl 4 (by decide) (hg _ f_Md_19) (fun _ h9 => h9) rfl dMd_collect_84 ?_
      refine lv_isub hx hb dMd_collect_87 ?_
      refine gx_top (z := nI o) ho ?_
      refine lv_aload_n hx hb dMd_collect_88 rfl (lv_at hl 1 rfl) ?_
      refine va_get (C := RMd) (T := TMd) (N := 25) (ci := 2) (v := .ref (b 1)) hx hb hg inMd hown hK hP 0 rfl rfl 1 (by decide) (hg _ f_Md_7) (fun _ h9 => h9) rfl dMd_collect_89 ?_
      refine lv_iconst (v := 3) hx hb dMd_collect_92 (by decide) ?_
      refine lv_aload_n hx hb dMd_collect_93 rfl (lv_at hl 1 rfl) ?_
      refine va_get (C := RMd) (T := TMd) (N := 25) (ci := 2) (v := .int (μ.M 1)) hx hb hg inMd hown hK hP 0 rfl rfl 4 (by decide) (hg _ f_Md_19) (fun _ h9 => h9) rfl dMd_collect_94 ?_
      refine lv_isub hx hb dMd_collect_97 ?_
      refine gx_top (z := nI o) ho ?_
      refine va_iald hx hb hK hP 1 0 rfl rfl (vp_in_nI (show o < 4 from ho4) (by decide)) dMd_collect_98 ?_
      refine gx_top (z := (μ.A 0) o) (congrArg _ (nI_clamp (Nat.lt_trans (show o < 4 from ho4) (by decide)))) ?_
      refine va_iast hx hb hK hP hD hS 3 0 rfl rfl (vp_in_nI (show o < 4 from ho4) (by decide)) dMd_collect_99 (fun H locs hP hD hS => ?_)
      rw [nI_clamp (Nat.lt_trans (show o < 4 from ho4) (by decide))] at hP hD
      rw [mdA_2] at hP hD
      refine lv_iconst (v := 0) hx hb dMd_collect_100 (by decide) ?_
      refine lv_istore_n (lv' := [(2, .int 0), (1, .int (((((μ.A 2) 0) - ((μ.A 0) 0)) + ((μ.A 2) rw)) - ((μ.A 0) rw))), (0, .ref (b 0))]) hx hb dMd_collect_101 rfl hl (by decide) rfl (fun ls hl => ?_)
      obtain ⟨n3, nC, nc, v1, v2, v3, hM4, heR, heO, heC, hM5, hnn, hcp, hTd, hr0, hu0⟩ := hev0
      obtain ⟨μ1, hμ1, hP, hD⟩ : ∃ μ1 : mSt, μ1 = col00 μ o ∧ va_P D gC (mdW cI cZ b μ1) H ∧ va_D A (mdW cI cZ b μ1) := ⟨_, (by unfold col00; rfl), hP, hD⟩
      have key1 : ∀ (n : Nat) (t : Nat) (H : Heap) (locs : List Loc) (ls : Array Slot), (t + n = 3600) → va_P D gC (mdW cI cZ b (μ1.sA 14 (fillF (μ1.A 14) 0 t 0))) H → va_D A (mdW cI cZ b (μ1.sA 14 (fillF (μ1.A 14) 0 t 0))) → va_S A s.heap H locs → lv_has ls 3 [(0, .ref (b 0)), (1, .int (((((μ.A 2) 0) - ((μ.A 0) 0)) + ((μ.A 2) rw)) - ((μ.A 0) rw))), (2, .int (nI t))] → W p l e (gR 3) s m args below meth c H locs 0 0 (MQ below (va_Qi (fun r u => r = r0 ∧ u = u0) (gx_B D gC (mdT cI cZ) (mdW cI cZ b) A) A) args s 0 0 A) (F0 m 102 ls []) := by
        intro n
        induction n with
        | zero =>
          intro t H locs ls hte hP hD hS hl
          have hte : t = 3600 := hte
          subst hte
          have hl : lv_has ls 3 [(0, .ref (b 0)), (1, .int (((((μ.A 2) 0) - ((μ.A 0) 0)) + ((μ.A 2) rw)) - ((μ.A 0) rw))), (2, .int 3600)] := hl
          refine lv_iload_n hx hb dMd_collect_102 rfl (lv_at hl 2 rfl) ?_
          refine lv_sipush (v := 3600) hx hb dMd_collect_103 (by decide) ?_
          refine lv_icmp_ge (tgt := 122) hx hb dMd_collect_106 (by decide) (fun c_106 => ?_) (fun c_106 => ?_)
          · refine lv_iconst (v := 0) hx hb dMd_collect_122 (by decide) ?_
            refine lv_istore_n (lv' := [(2, .int 0), (0, .ref (b 0)), (1, .int (((((μ.A 2) 0) - ((μ.A 0) 0)) + ((μ.A 2) rw)) - ((μ.A 0) rw)))]) hx hb dMd_collect_123 rfl hl (by decide) rfl (fun ls hl => ?_)
            obtain ⟨μ2, hμ2, hP, hD⟩ : ∃ μ2 : mSt, μ2 = col0 μ o ∧ va_P D gC (mdW cI cZ b μ2) H ∧ va_D A (mdW cI cZ b μ2) := ⟨_, (by rw [hμ1]; unfold col0; rfl), hP, hD⟩
            rw [← hμ2] at heR
            have ho2 : 3 - μ2.M 1 = nI o := by rw [hμ2]; exact ho
            have h42 : μ2.M 4 = nI n3 := by rw [hμ2]; exact hM4
            have h12 : μ2.M 1 = nI rw := by rw [hμ2]; exact hrow
            have key2 : ∀ (n : Nat) (t : Nat) (τ : mSt) (H : Heap) (locs : List Loc) (ls : Array Slot), (t + n = 16) → (FndR o n t τ v1) → (fKp μ2 τ) → va_P D gC (mdW cI cZ b (τ)) H → va_D A (mdW cI cZ b (τ)) → va_S A s.heap H locs → lv_has ls 3 [(0, .ref (b 0)), (1, .int (((((μ.A 2) 0) - ((μ.A 0) 0)) + ((μ.A 2) rw)) - ((μ.A 0) rw))), (2, .int (nI t))] → W p l e (gR 3) s m args below meth c H locs 0 0 (MQ below (va_Qi (fun r u => r = r0 ∧ u = u0) (gx_B D gC (mdT cI cZ) (mdW cI cZ b) A) A) args s 0 0 A) (F0 m 124 ls []) := by
              intro n
              induction n with
              | zero =>
                intro t τ H locs ls hte hev hkp hP hD hS hl
                have hev : v1 = τ := hev
                rw [← hev] at hP hD hkp
                refine lv_iload_n hx hb dMd_collect_124 rfl (lv_at hl 2 rfl) ?_
                refine lv_bipush (v := 16) hx hb dMd_collect_125 (by decide) ?_
                refine lv_icmp_ge (tgt := 146) hx hb dMd_collect_127 (by decide) (fun c_127 => ?_) (fun c_127 => ?_)
                · refine lv_iconst (v := 0) hx hb dMd_collect_146 (by decide) ?_
                  refine lv_istore_n (lv' := [(2, .int 0), (0, .ref (b 0)), (1, .int (((((μ.A 2) 0) - ((μ.A 0) 0)) + ((μ.A 2) rw)) - ((μ.A 0) rw)))]) hx hb dMd_collect_147 rfl hl (by decide) rfl (fun ls hl => ?_)
                  have key3 : ∀ (n : Nat) (t : Nat) (τ : mSt) (H : Heap) (locs : List Loc) (ls : Array Slot), (t + n = n3) → (FndO o n t τ v2) → (fKp μ2 τ) → va_P D gC (mdW cI cZ b (τ)) H → va_D A (mdW cI cZ b (τ)) → va_S A s.heap H locs → lv_has ls 3 [(0, .ref (b 0)), (1, .int (((((μ.A 2) 0) - ((μ.A 0) 0)) + ((μ.A 2) rw)) - ((μ.A 0) rw))), (2, .int (nI t))] → W p l e (gR 3) s m args below meth c H locs 0 0 (MQ below (va_Qi (fun r u => r = r0 ∧ u = u0) (gx_B D gC (mdT cI cZ) (mdW cI cZ b) A) A) args s 0 0 A) (F0 m 148 ls []) := by
                    intro n
                    induction n with
                    | zero =>
                      intro t τ H locs ls hte hev hkp hP hD hS hl
                      have hte : t = n3 := hte
                      have hev : v2 = τ := hev
                      rw [← hev] at hP hD hkp
                      have e4 : v2.M 4 = nI n3 := by rw [hkp.2.2.2.2.2.2.2.2.2.2.2.2.2.2.1]; exact h42
                      refine lv_iload_n hx hb dMd_collect_148 rfl (lv_at hl 2 rfl) ?_
                      refine lv_aload_n hx hb dMd_collect_149 rfl (lv_at hl 0 rfl) ?_
                      refine va_get (C := RMd) (T := TMd) (N := 25) (ci := 2) (v := .int (v2.M 4)) hx hb hg inMd hown hK hP 0 rfl rfl 16 (by decide) (hg _ f_Md_76) (fun _ h9 => h9) rfl dMd_collect_150 ?_
                      refine gx_top (z := nI n3) e4 ?_
                      refine lv_icmp_ge (tgt := 172) hx hb dMd_collect_153 (by decide) (fun c_153 => ?_) (fun c_153 => ?_)
                      · refine lv_iconst (v := 0) hx hb dMd_collect_172 (by decide) ?_
                        refine lv_istore_n (lv' := [(2, .int 0), (0, .ref (b 0)), (1, .int (((((μ.A 2) 0) - ((μ.A 0) 0)) + ((μ.A 2) rw)) - ((μ.A 0) rw)))]) hx hb dMd_collect_173 rfl hl (by decide) rfl (fun ls hl => ?_)
                        have key4 : ∀ (n : Nat) (t : Nat) (τ : mSt) (H : Heap) (locs : List Loc) (ls : Array Slot), (FndC o n t τ v3) → (fKp μ2 τ) → va_P D gC (mdW cI cZ b (τ)) H → va_D A (mdW cI cZ b (τ)) → va_S A s.heap H locs → lv_has ls 3 [(0, .ref (b 0)), (1, .int (((((μ.A 2) 0) - ((μ.A 0) 0)) + ((μ.A 2) rw)) - ((μ.A 0) rw))), (2, .int (nI t))] → W p l e (gR 3) s m args below meth c H locs 0 0 (MQ below (va_Qi (fun r u => r = r0 ∧ u = u0) (gx_B D gC (mdT cI cZ) (mdW cI cZ b) A) A) args s 0 0 A) (F0 m 174 ls []) := by
                          intro n
                          induction n with
                          | zero =>
                            intro t τ H locs ls hev hkp hP hD hS hl
                            obtain ⟨ht, e5, hev⟩ := hev
                            rw [← hev] at hP hD hkp e5
                            refine lv_iload_n hx hb dMd_collect_174 rfl (lv_at hl 2 rfl) ?_
                            refine lv_aload_n hx hb dMd_collect_175 rfl (lv_at hl 0 rfl) ?_
                            refine va_get (C := RMd) (T := TMd) (N := 25) (ci := 2) (v := .int (v3.M 5)) hx hb hg inMd hown hK hP 0 rfl rfl 18 (by decide) (hg _ f_Md_113) (fun _ h9 => h9) rfl dMd_collect_176 ?_
                            refine gx_top (z := nI t) e5 ?_
                            refine lv_icmp_ge (tgt := 198) hx hb dMd_collect_179 (by decide) (fun c_179 => ?_) (fun c_179 => ?_)
                            · refine lv_iconst (v := 0) hx hb dMd_collect_198 (by decide) ?_
                              refine lv_istore_n (lv' := [(2, .int 0), (0, .ref (b 0)), (1, .int (((((μ.A 2) 0) - ((μ.A 0) 0)) + ((μ.A 2) rw)) - ((μ.A 0) rw)))]) hx hb dMd_collect_199 rfl hl (by decide) rfl (fun ls hl => ?_)
                              have key5 : ∀ (n : Nat) (t : Nat) (H : Heap) (locs : List Loc) (ls : Array Slot), (t + n = 3600) → va_P D gC (mdW cI cZ b (v3.sA 3 (thF v3 t))) H → va_D A (mdW cI cZ b (v3.sA 3 (thF v3 t))) → va_S A s.heap H locs → lv_has ls 3 [(0, .ref (b 0)), (1, .int (((((μ.A 2) 0) - ((μ.A 0) 0)) + ((μ.A 2) rw)) - ((μ.A 0) rw))), (2, .int (nI t))] → W p l e (gR 3) s m args below meth c H locs 0 0 (MQ below (va_Qi (fun r u => r = r0 ∧ u = u0) (gx_B D gC (mdT cI cZ) (mdW cI cZ b) A) A) args s 0 0 A) (F0 m 200 ls []) := by
                                intro n
                                induction n with
                                | zero =>
                                  intro t H locs ls hte hP hD hS hl
                                  have hte : t = 3600 := hte
                                  subst hte
                                  have hl : lv_has ls 3 [(0, .ref (b 0)), (1, .int (((((μ.A 2) 0) - ((μ.A 0) 0)) + ((μ.A 2) rw)) - ((μ.A 0) rw))), (2, .int 3600)] := hl
                                  refine lv_iload_n hx hb dMd_collect_200 rfl (lv_at hl 2 rfl) ?_
                                  refine lv_sipush (v := 3600) hx hb dMd_collect_201 (by decide) ?_
                                  refine lv_icmp_ge (tgt := 252) hx hb dMd_collect_204 (by decide) (fun c_204 => ?_) (fun c_204 => ?_)
                                  · refine lv_iconst (v := 0) hx hb dMd_collect_252 (by decide) ?_
                                    refine lv_istore_n (lv' := [(2, .int 0), (0, .ref (b 0)), (1, .int (((((μ.A 2) 0) - ((μ.A 0) 0)) + ((μ.A 2) rw)) - ((μ.A 0) rw)))]) hx hb dMd_collect_253 rfl hl (by decide) rfl (fun ls hl => ?_)
                                    obtain ⟨v4, hv4, hP, hD⟩ : ∃ v4 : mSt, v4 = col4 v3 ∧ va_P D gC (mdW cI cZ b v4) H ∧ va_D A (mdW cI cZ b v4) := ⟨_, (by unfold col4; rfl), hP, hD⟩
                                    have h4M : v4.M 4 = nI n3 := by rw [hv4]; exact (show v3.M 4 = nI n3 by rw [hkp.2.2.2.2.2.2.2.2.2.2.2.2.2.2.1]; exact h42)
                                    have h5M : v4.M 5 = nI nc := by rw [hv4]; exact hM5
                                    have hcp4 : ∀ i, i < nc → ∃ k, k < 3600 ∧ v4.A 13 i = nI k := by rw [hv4]; exact hcp
                                    have key6 : ∀ (n : Nat) (t : Nat) (H : Heap) (locs : List Loc) (ls : Array Slot), (t + n = nc) → va_P D gC (mdW cI cZ b ((v4.sA 12 (ofF v4 n3 t).1).sM 4 (nI (ofF v4 n3 t).2))) H → va_D A (mdW cI cZ b ((v4.sA 12 (ofF v4 n3 t).1).sM 4 (nI (ofF v4 n3 t).2))) → va_S A s.heap H locs → lv_has ls 3 [(0, .ref (b 0)), (1, .int (((((μ.A 2) 0) - ((μ.A 0) 0)) + ((μ.A 2) rw)) - ((μ.A 0) rw))), (2, .int (nI t))] → W p l e (gR 3) s m args below meth c H locs 0 0 (MQ below (va_Qi (fun r u => r = r0 ∧ u = u0) (gx_B D gC (mdT cI cZ) (mdW cI cZ b) A) A) args s 0 0 A) (F0 m 254 ls []) := by
                                      intro n
                                      induction n with
                                      | zero =>
                                        intro t H locs ls hte hP hD hS hl
                                        have hte : t = nc := hte
                                        refine lv_iload_n hx hb dMd_collect_254 rfl (lv_at hl 2 rfl) ?_
                                        refine lv_aload_n hx hb dMd_collect_255 rfl (lv_at hl 0 rfl) ?_
                                        refine va_get (C := RMd) (T := TMd) (N := 25) (ci := 2) (v := .int (v4.M 5)) hx hb hg inMd hown hK hP 0 rfl rfl 18 (by decide) (hg _ f_Md_113) (fun _ h9 => h9) rfl dMd_collect_256 ?_
                                        refine gx_top (z := nI nc) h5M ?_
                                        refine lv_icmp_ge (tgt := 308) hx hb dMd_collect_259 (by decide) (fun c_259 => ?_) (fun c_259 => ?_)
                                        · rw [hte] at hP hD
                                          obtain ⟨v5, hv5, hP, hD⟩ : ∃ v5 : mSt, v5 = col5 v3 n3 nc ∧ va_P D gC (mdW cI cZ b v5) H ∧ va_D A (mdW cI cZ b v5) := ⟨_, (by rw [hv4]; unfold col5; rfl), hP, hD⟩
                                          have e15 : v5.M 1 = nI rw := by rw [hv5]; exact (show v3.M 1 = nI rw by rw [hkp.2.2.2.2.2.2.2.2.2.2.2.1]; exact h12)
                                          refine lv_aload_n hx hb dMd_collect_308 rfl (lv_at hl 0 rfl) ?_
                                          refine va_get (C := RMd) (T := TMd) (N := 25) (ci := 2) (v := .ref (b 3)) hx hb hg inMd hown hK hP 0 rfl rfl 3 (by decide) (hg _ f_Md_16) (fun _ h9 => h9) rfl dMd_collect_309 ?_
                                          refine lv_iconst (v := 0) hx hb dMd_collect_312 (by decide) ?_
                                          refine lv_aload_n hx hb dMd_collect_313 rfl (lv_at hl 0 rfl) ?_
                                          refine va_get (C := RMd) (T := TMd) (N := 25) (ci := 2) (v := .ref (b 1)) hx hb hg inMd hown hK hP 0 rfl rfl 1 (by decide) (hg _ f_Md_7) (fun _ h9 => h9) rfl dMd_collect_314 ?_
                                          refine lv_iconst (v := 0) hx hb dMd_collect_317 (by decide) ?_
                                          refine va_iald hx hb hK hP 1 0 rfl rfl (by unfold vp_in; decide) dMd_collect_318 ?_
                                          refine gx_top (z := (v5.A 0) 0) rfl ?_
                                          refine va_iast hx hb hK hP hD hS 3 0 rfl rfl (by unfold vp_in; decide) dMd_collect_319 (fun H locs hP hD hS => ?_)
                                          rw [show (0 : Int32).toNatClampNeg = 0 from by decide] at hP hD
                                          rw [mdA_2] at hP hD
                                          refine lv_aload_n hx hb dMd_collect_320 rfl (lv_at hl 0 rfl) ?_
                                          refine va_get (C := RMd) (T := TMd) (N := 25) (ci := 2) (v := .ref (b 3)) hx hb hg inMd hown hK hP 0 rfl rfl 3 (by decide) (hg _ f_Md_16) (fun _ h9 => h9) rfl dMd_collect_321 ?_
                                          refine lv_aload_n hx hb dMd_collect_324 rfl (lv_at hl 0 rfl) ?_
                                          refine va_get (C := RMd) (T := TMd) (N := 25) (ci := 2) (v := .int (v5.M 1)) hx hb hg inMd hown hK hP 0 rfl rfl 4 (by decide) (hg _ f_Md_19) (fun _ h9 => h9) rfl dMd_collect_325 ?_
                                          refine gx_top (z := nI rw) e15 ?_
                                          refine lv_aload_n hx hb dMd_collect_328 rfl (lv_at hl 0 rfl) ?_
                                          refine va_get (C := RMd) (T := TMd) (N := 25) (ci := 2) (v := .ref (b 1)) hx hb hg inMd hown hK hP 0 rfl rfl 1 (by decide) (hg _ f_Md_7) (fun _ h9 => h9) rfl dMd_collect_329 ?_
                                          refine lv_aload_n hx hb dMd_collect_332 rfl (lv_at hl 0 rfl) ?_
                                          refine va_get (C := RMd) (T := TMd) (N := 25) (ci := 2) (v := .int (v5.M 1)) hx hb hg inMd hown hK hP 0 rfl rfl 4 (by decide) (hg _ f_Md_19) (fun _ h9 => h9) rfl dMd_collect_333 ?_
                                          refine gx_top (z := nI rw) e15 ?_
                                          refine va_iald hx hb hK hP 1 0 rfl rfl (vp_in_nI (show rw < 4 from hrw4) (by decide)) dMd_collect_336 ?_
                                          refine gx_top (z := (v5.A 0) rw) (congrArg _ (nI_clamp (Nat.lt_trans (show rw < 4 from hrw4) (by decide)))) ?_
                                          refine va_iast hx hb hK hP hD hS 3 0 rfl rfl (vp_in_nI (show rw < 4 from hrw4) (by decide)) dMd_collect_337 (fun H locs hP hD hS => ?_)
                                          rw [nI_clamp (Nat.lt_trans (show rw < 4 from hrw4) (by decide))] at hP hD
                                          rw [mdA_2] at hP hD
                                          rw [mdT_2, mdG_2] at hP hD
                                          refine lv_aload_n hx hb dMd_collect_338 rfl (lv_at hl 0 rfl) ?_
                                          refine lv_iconst (v := 3) hx hb dMd_collect_339 (by decide) ?_
                                          refine lv_aload_n hx hb dMd_collect_340 rfl (lv_at hl 0 rfl) ?_
                                          refine va_get (C := RMd) (T := TMd) (N := 25) (ci := 2) (v := .int (v5.M 1)) hx hb hg inMd hown hK hP 0 rfl rfl 4 (by decide) (hg _ f_Md_19) (fun _ h9 => h9) rfl dMd_collect_341 ?_
                                          refine lv_isub hx hb dMd_collect_344 ?_
                                          refine va_put (C := RMd) (T := TMd) (N := 25) (ci := 2) (v := .int (3 - (v5.M 1))) hx hb hg inMd tyMd tyMd_ok nmMd hown hK hP hD hS 0 rfl rfl 4 (by decide) (hg _ f_Md_19) (fun _ h9 => h9) rfl (tyMd_ok 4 (by decide)) rfl rfl (Nat.le_of_ble_eq_true rfl) dMd_collect_345 (fun H locs hP hD hS => ?_)
                                          rw [mdM_1] at hP hD
                                          refine lv_aload_n hx hb dMd_collect_348 rfl (lv_at hl 0 rfl) ?_
                                          refine lv_dup hx hb dMd_collect_349 rfl ?_
                                          refine va_get (C := RMd) (T := TMd) (N := 25) (ci := 2) (v := .int (v5.M 6)) hx hb hg inMd hown hK hP 0 rfl rfl 22 (by decide) (hg _ f_Md_79) (fun _ h9 => h9) rfl dMd_collect_350 ?_
                                          refine lv_iconst (v := 1) hx hb dMd_collect_353 (by decide) ?_
                                          refine lv_iadd hx hb dMd_collect_354 ?_
                                          refine va_put (C := RMd) (T := TMd) (N := 25) (ci := 2) (v := .int ((v5.M 6) + 1)) hx hb hg inMd tyMd tyMd_ok nmMd hown hK hP hD hS 0 rfl rfl 22 (by decide) (hg _ f_Md_79) (fun _ h9 => h9) rfl (tyMd_ok 22 (by decide)) rfl rfl (Nat.le_of_ble_eq_true rfl) dMd_collect_355 (fun H locs hP hD hS => ?_)
                                          rw [mdM_6] at hP hD
                                          refine lv_aload_n hx hb dMd_collect_358 rfl (lv_at hl 0 rfl) ?_
                                          obtain ⟨v6, hv6, hP, hD⟩ : ∃ v6 : mSt, v6 = col6 (col5 v3 n3 nc) rw ∧ va_P D gC (mdW cI cZ b v6) H ∧ va_D A (mdW cI cZ b v6) := ⟨_, (by rw [← hv5]; unfold col6; rfl), hP, hD⟩
                                          rw [← hv6] at hTd hu0
                                          refine gx_callv (C := "NurseryRowModel") (As := []) (rest := []) E (qMd_tidy l D cI cZ b v6 hTd) (gx_cwV hts l_Md_123 k_Md_tidy ki_Md_tidy ke_Md_tidy z_Md n_Md_tidy ⟨by decide, by decide⟩) hK hP hD hS hA (va_recv hK hP (ci := 2) (q0 := 0) rfl rfl) hl.1 rfl rfl (Nat.le_of_ble_eq_true rfl) ⟨by decide, by decide⟩ dMd_collect_359 (fun u_5 H locs hq_6 hP hD hS => ?_)
                                          subst hq_6
                                          refine lv_aload_n hx hb dMd_collect_362 rfl (lv_at hl 0 rfl) ?_
                                          refine va_get (C := RMd) (T := TMd) (N := 25) (ci := 2) (v := .int ((tidM v6).M 5)) hx hb hg inMd hown hK hP 0 rfl rfl 18 (by decide) (hg _ f_Md_113) (fun _ h9 => h9) rfl dMd_collect_363 ?_
                                          refine gx_top (z := nI nc) (by rw [hv6]; exact hM5) ?_
                                          exact gx_iret (u := tidM v6) E hK hP hD hS ⟨hr0.symm, hu0.symm⟩ dMd_collect_366
                                        · exact absurd c_259 (not_not_intro (nI_le (by omega) (by omega)))
                                      | succ n ih =>
                                        intro t H locs ls hte hP hD hS hl
                                        obtain ⟨kk, hkk, ekk⟩ := hcp4 t (by omega)
                                        have hof := ofF_le v4 n3 t
                                        refine lv_iload_n hx hb dMd_collect_254 rfl (lv_at hl 2 rfl) ?_
                                        refine lv_aload_n hx hb dMd_collect_255 rfl (lv_at hl 0 rfl) ?_
                                        refine va_get (C := RMd) (T := TMd) (N := 25) (ci := 2) (v := .int (v4.M 5)) hx hb hg inMd hown hK hP 0 rfl rfl 18 (by decide) (hg _ f_Md_113) (fun _ h9 => h9) rfl dMd_collect_256 ?_
                                        refine gx_top (z := nI nc) h5M ?_
                                        refine lv_icmp_ge (tgt := 308) hx hb dMd_collect_259 (by decide) (fun c_259 => ?_) (fun c_259 => ?_)
                                        · exact absurd c_259 (nI_ge (by omega) (by omega))
                                        · refine lv_aload_n hx hb dMd_collect_262 rfl (lv_at hl 0 rfl) ?_
                                          refine va_get (C := RMd) (T := TMd) (N := 25) (ci := 2) (v := .ref (b 5)) hx hb hg inMd hown hK hP 0 rfl rfl 7 (by decide) (hg _ f_Md_30) (fun _ h9 => h9) rfl dMd_collect_263 ?_
                                          refine lv_aload_n hx hb dMd_collect_266 rfl (lv_at hl 0 rfl) ?_
                                          refine va_get (C := RMd) (T := TMd) (N := 25) (ci := 2) (v := .ref (b 14)) hx hb hg inMd hown hK hP 0 rfl rfl 19 (by decide) (hg _ f_Md_57) (fun _ h9 => h9) rfl dMd_collect_267 ?_
                                          refine lv_iload_n hx hb dMd_collect_270 rfl (lv_at hl 2 rfl) ?_
                                          refine va_iald hx hb hK hP 14 0 rfl rfl (vp_in_nI (show t < 3600 from (by omega)) (by decide)) dMd_collect_271 ?_
                                          refine gx_top (z := (v4.A 13) t) (congrArg _ (nI_clamp (Nat.lt_trans (show t < 3600 from (by omega)) (by decide)))) ?_
                                          refine va_iald hx hb hK hP 5 0 rfl rfl (by rw [ekk]; exact vp_in_nI hkk (by decide)) dMd_collect_272 ?_
                                          refine lv_iconst (v := 3) hx hb dMd_collect_273 (by decide) ?_
                                          refine lv_icmp_ne (tgt := 302) hx hb dMd_collect_274 (by decide) (fun c_274 => ?_) (fun c_274 => ?_)
                                          · refine lv_iinc (v := nI (t + 1)) (lv' := [(2, .int (nI (t + 1))), (0, .ref (b 0)), (1, .int (((((μ.A 2) 0) - ((μ.A 0) 0)) + ((μ.A 2) rw)) - ((μ.A 0) rw)))]) hx hb dMd_collect_302 hl (k := 2) rfl (by rw [← nI_1]; rfl) (by decide) rfl (fun ls hl => ?_)
                                            refine lv_goto (tgt := 254) hx hb dMd_collect_305 (by decide) ?_
                                            rw [← ofF_n (μ := v4) (m0 := n3) c_274] at hP hD
                                            exact ih (t + 1) H locs ls (by omega) hP hD hS (lv_sub hl [1, 2, 0] rfl)
                                          · refine lv_aload_n hx hb dMd_collect_277 rfl (lv_at hl 0 rfl) ?_
                                            refine va_get (C := RMd) (T := TMd) (N := 25) (ci := 2) (v := .ref (b 13)) hx hb hg inMd hown hK hP 0 rfl rfl 17 (by decide) (hg _ f_Md_54) (fun _ h9 => h9) rfl dMd_collect_278 ?_
                                            refine lv_aload_n hx hb dMd_collect_281 rfl (lv_at hl 0 rfl) ?_
                                            refine va_get (C := RMd) (T := TMd) (N := 25) (ci := 2) (v := .int (nI (ofF v4 n3 t).2)) hx hb hg inMd hown hK hP 0 rfl rfl 16 (by decide) (hg _ f_Md_76) (fun _ h9 => h9) rfl dMd_collect_282 ?_
                                            refine lv_aload_n hx hb dMd_collect_285 rfl (lv_at hl 0 rfl) ?_
                                            refine va_get (C := RMd) (T := TMd) (N := 25) (ci := 2) (v := .ref (b 14)) hx hb hg inMd hown hK hP 0 rfl rfl 19 (by decide) (hg _ f_Md_57) (fun _ h9 => h9) rfl dMd_collect_286 ?_
                                            refine lv_iload_n hx hb dMd_collect_289 rfl (lv_at hl 2 rfl) ?_
                                            refine va_iald hx hb hK hP 14 0 rfl rfl (vp_in_nI (show t < 3600 from (by omega)) (by decide)) dMd_collect_290 ?_
                                            refine gx_top (z := (v4.A 13) t) (congrArg _ (nI_clamp (Nat.lt_trans (show t < 3600 from (by omega)) (by decide)))) ?_
                                            refine va_iast hx hb hK hP hD hS 13 0 rfl rfl (vp_in_nI (show (ofF v4 n3 t).2 < 3600 from (by omega)) (by decide)) dMd_collect_291 (fun H locs hP hD hS => ?_)
                                            rw [nI_clamp (Nat.lt_trans (show (ofF v4 n3 t).2 < 3600 from (by omega)) (by decide))] at hP hD
                                            rw [mdA_12] at hP hD
                                            refine lv_aload_n hx hb dMd_collect_292 rfl (lv_at hl 0 rfl) ?_
                                            refine lv_dup hx hb dMd_collect_293 rfl ?_
                                            refine va_get (C := RMd) (T := TMd) (N := 25) (ci := 2) (v := .int (nI (ofF v4 n3 t).2)) hx hb hg inMd hown hK hP 0 rfl rfl 16 (by decide) (hg _ f_Md_76) (fun _ h9 => h9) rfl dMd_collect_294 ?_
                                            refine lv_iconst (v := 1) hx hb dMd_collect_297 (by decide) ?_
                                            refine lv_iadd hx hb dMd_collect_298 ?_
                                            refine gx_top (z := nI ((ofF v4 n3 t).2 + 1)) (nI_1 _) ?_
                                            refine va_put (C := RMd) (T := TMd) (N := 25) (ci := 2) (v := .int (nI ((ofF v4 n3 t).2 + 1))) hx hb hg inMd tyMd tyMd_ok nmMd hown hK hP hD hS 0 rfl rfl 16 (by decide) (hg _ f_Md_76) (fun _ h9 => h9) rfl (tyMd_ok 16 (by decide)) rfl rfl (Nat.le_of_ble_eq_true rfl) dMd_collect_299 (fun H locs hP hD hS => ?_)
                                            rw [mdM_4] at hP hD
                                            refine lv_iinc (v := nI (t + 1)) (lv' := [(2, .int (nI (t + 1))), (0, .ref (b 0)), (1, .int (((((μ.A 2) 0) - ((μ.A 0) 0)) + ((μ.A 2) rw)) - ((μ.A 0) rw)))]) hx hb dMd_collect_302 hl (k := 2) rfl (by rw [← nI_1]; rfl) (by decide) rfl (fun ls hl => ?_)
                                            refine lv_goto (tgt := 254) hx hb dMd_collect_305 (by decide) ?_
                                            rw [mdO_a, mdO_c, ← ofF_y1 (μ := v4) c_274, ← ofF_y2 (μ := v4) c_274] at hP hD
                                            exact ih (t + 1) H locs ls (by omega) hP hD hS (lv_sub hl [1, 2, 0] rfl)
                                    exact key6 nc 0 H locs ls (Nat.zero_add _) (by rw [show ofF v4 n3 0 = (v4.A 12, n3) from rfl]; show va_P D gC (mdW cI cZ b ((v4.sA 12 (v4.A 12)).sM 4 (nI n3))) _; rw [← h4M, mdO_b]; exact hP) (by rw [show ofF v4 n3 0 = (v4.A 12, n3) from rfl]; show va_D A (mdW cI cZ b ((v4.sA 12 (v4.A 12)).sM 4 (nI n3))); rw [← h4M, mdO_b]; exact hD) hS (lv_sub hl [1, 2, 0] rfl)
                                  · exact absurd c_204 (by decide)
                                | succ n ih =>
                                  intro t H locs ls hte hP hD hS hl
                                  have hlt : t < 3600 := by omega
                                  refine lv_iload_n hx hb dMd_collect_200 rfl (lv_at hl 2 rfl) ?_
                                  refine lv_sipush (v := 3600) hx hb dMd_collect_201 (by decide) ?_
                                  refine lv_icmp_ge (tgt := 252) hx hb dMd_collect_204 (by decide) (fun c_204 => ?_) (fun c_204 => ?_)
                                  · exact absurd c_204 (nI_ge (b := 3600) (by omega) (by decide))
                                  · refine lv_aload_n hx hb dMd_collect_207 rfl (lv_at hl 0 rfl) ?_
                                    refine va_get (C := RMd) (T := TMd) (N := 25) (ci := 2) (v := .ref (b 4)) hx hb hg inMd hown hK hP 0 rfl rfl 6 (by decide) (hg _ f_Md_26) (fun _ h9 => h9) rfl dMd_collect_208 ?_
                                    refine lv_iload_n hx hb dMd_collect_211 rfl (lv_at hl 2 rfl) ?_
                                    refine lv_aload_n hx hb dMd_collect_212 rfl (lv_at hl 0 rfl) ?_
                                    refine va_get (C := RMd) (T := TMd) (N := 25) (ci := 2) (v := .ref (b 4)) hx hb hg inMd hown hK hP 0 rfl rfl 6 (by decide) (hg _ f_Md_26) (fun _ h9 => h9) rfl dMd_collect_213 ?_
                                    refine lv_iload_n hx hb dMd_collect_216 rfl (lv_at hl 2 rfl) ?_
                                    refine va_zald hx hb hK hP 4 1 rfl rfl (vp_in_nI hlt (by decide)) dMd_collect_217 ?_
                                    refine gx_top (z := v3.A 3 t) ((congrArg _ (nI_clamp (Nat.lt_trans hlt (by decide)))).trans (thF_at v3 t)) ?_
                                    refine lv_if_eq (tgt := 244) hx hb dMd_collect_218 (by decide) (fun c_218 => ?_) (fun c_218 => ?_)
                                    · refine lv_iconst (v := 0) hx hb dMd_collect_244 (by decide) ?_
                                      refine va_zast hx hb hK hP hD hS 4 1 rfl rfl (vp_in_nI (show t < 3600 from hlt) (by decide)) dMd_collect_245 (fun H locs hP hD hS => ?_)
                                      rw [show vp_nar .boolean 0 = 0 from rfl] at hP hD
                                      rw [nI_clamp (Nat.lt_trans (show t < 3600 from hlt) (by decide))] at hP hD
                                      rw [mdA_3] at hP hD
                                      refine lv_iinc (v := nI (t + 1)) (lv' := [(2, .int (nI (t + 1))), (0, .ref (b 0)), (1, .int (((((μ.A 2) 0) - ((μ.A 0) 0)) + ((μ.A 2) rw)) - ((μ.A 0) rw)))]) hx hb dMd_collect_246 hl (k := 2) rfl (by rw [← nI_1]; rfl) (by decide) rfl (fun ls hl => ?_)
                                      refine lv_goto (tgt := 200) hx hb dMd_collect_249 (by decide) ?_
                                      rw [mdT_3, mdG_3, thF_1 v3 t ((if_neg (fun z => z.1 c_218)).symm)] at hP hD
                                      exact ih (t + 1) H locs ls (by omega) hP hD hS (lv_sub hl [1, 2, 0] rfl)
                                    · refine lv_aload_n hx hb dMd_collect_221 rfl (lv_at hl 0 rfl) ?_
                                      refine va_get (C := RMd) (T := TMd) (N := 25) (ci := 2) (v := .ref (b 5)) hx hb hg inMd hown hK hP 0 rfl rfl 7 (by decide) (hg _ f_Md_30) (fun _ h9 => h9) rfl dMd_collect_222 ?_
                                      refine lv_iload_n hx hb dMd_collect_225 rfl (lv_at hl 2 rfl) ?_
                                      refine va_iald hx hb hK hP 5 0 rfl rfl (vp_in_nI (show t < 3600 from hlt) (by decide)) dMd_collect_226 ?_
                                      refine gx_top (z := (v3.A 4) t) (congrArg _ (nI_clamp (Nat.lt_trans (show t < 3600 from hlt) (by decide)))) ?_
                                      refine lv_iconst (v := 3) hx hb dMd_collect_227 (by decide) ?_
                                      refine lv_icmp_eq (tgt := 240) hx hb dMd_collect_228 (by decide) (fun c_228 => ?_) (fun c_228 => ?_)
                                      · refine lv_iconst (v := 1) hx hb dMd_collect_240 (by decide) ?_
                                        refine lv_goto (tgt := 245) hx hb dMd_collect_241 (by decide) ?_
                                        refine va_zast hx hb hK hP hD hS 4 1 rfl rfl (vp_in_nI (show t < 3600 from hlt) (by decide)) dMd_collect_245 (fun H locs hP hD hS => ?_)
                                        rw [show vp_nar .boolean 1 = 1 from rfl] at hP hD
                                        rw [nI_clamp (Nat.lt_trans (show t < 3600 from hlt) (by decide))] at hP hD
                                        rw [mdA_3] at hP hD
                                        refine lv_iinc (v := nI (t + 1)) (lv' := [(2, .int (nI (t + 1))), (0, .ref (b 0)), (1, .int (((((μ.A 2) 0) - ((μ.A 0) 0)) + ((μ.A 2) rw)) - ((μ.A 0) rw)))]) hx hb dMd_collect_246 hl (k := 2) rfl (by rw [← nI_1]; rfl) (by decide) rfl (fun ls hl => ?_)
                                        refine lv_goto (tgt := 200) hx hb dMd_collect_249 (by decide) ?_
                                        rw [mdT_3, mdG_3, thF_1 v3 t ((if_pos ⟨c_218, Or.inl c_228⟩).symm)] at hP hD
                                        exact ih (t + 1) H locs ls (by omega) hP hD hS (lv_sub hl [1, 2, 0] rfl)
                                      · refine lv_aload_n hx hb dMd_collect_231 rfl (lv_at hl 0 rfl) ?_
                                        refine va_get (C := RMd) (T := TMd) (N := 25) (ci := 2) (v := .ref (b 15)) hx hb hg inMd hown hK hP 0 rfl rfl 20 (by decide) (hg _ f_Md_60) (fun _ h9 => h9) rfl dMd_collect_232 ?_
                                        refine lv_iload_n hx hb dMd_collect_235 rfl (lv_at hl 2 rfl) ?_
                                        refine va_zald hx hb hK hP 15 1 rfl rfl (vp_in_nI (show t < 3600 from hlt) (by decide)) dMd_collect_236 ?_
                                        refine gx_top (z := (v3.A 14) t) (congrArg _ (nI_clamp (Nat.lt_trans (show t < 3600 from hlt) (by decide)))) ?_
                                        refine lv_if_eq (tgt := 244) hx hb dMd_collect_237 (by decide) (fun c_237 => ?_) (fun c_237 => ?_)
                                        · refine lv_iconst (v := 0) hx hb dMd_collect_244 (by decide) ?_
                                          refine va_zast hx hb hK hP hD hS 4 1 rfl rfl (vp_in_nI (show t < 3600 from hlt) (by decide)) dMd_collect_245 (fun H locs hP hD hS => ?_)
                                          rw [show vp_nar .boolean 0 = 0 from rfl] at hP hD
                                          rw [nI_clamp (Nat.lt_trans (show t < 3600 from hlt) (by decide))] at hP hD
                                          rw [mdA_3] at hP hD
                                          refine lv_iinc (v := nI (t + 1)) (lv' := [(2, .int (nI (t + 1))), (0, .ref (b 0)), (1, .int (((((μ.A 2) 0) - ((μ.A 0) 0)) + ((μ.A 2) rw)) - ((μ.A 0) rw)))]) hx hb dMd_collect_246 hl (k := 2) rfl (by rw [← nI_1]; rfl) (by decide) rfl (fun ls hl => ?_)
                                          refine lv_goto (tgt := 200) hx hb dMd_collect_249 (by decide) ?_
                                          rw [mdT_3, mdG_3, thF_1 v3 t ((if_neg (fun z => z.2.elim c_228 (fun w => w c_237))).symm)] at hP hD
                                          exact ih (t + 1) H locs ls (by omega) hP hD hS (lv_sub hl [1, 2, 0] rfl)
                                        · refine lv_iconst (v := 1) hx hb dMd_collect_240 (by decide) ?_
                                          refine lv_goto (tgt := 245) hx hb dMd_collect_241 (by decide) ?_
                                          refine va_zast hx hb hK hP hD hS 4 1 rfl rfl (vp_in_nI (show t < 3600 from hlt) (by decide)) dMd_collect_245 (fun H locs hP hD hS => ?_)
                                          rw [show vp_nar .boolean 1 = 1 from rfl] at hP hD
                                          rw [nI_clamp (Nat.lt_trans (show t < 3600 from hlt) (by decide))] at hP hD
                                          rw [mdA_3] at hP hD
                                          refine lv_iinc (v := nI (t + 1)) (lv' := [(2, .int (nI (t + 1))), (0, .ref (b 0)), (1, .int (((((μ.A 2) 0) - ((μ.A 0) 0)) + ((μ.A 2) rw)) - ((μ.A 0) rw)))]) hx hb dMd_collect_246 hl (k := 2) rfl (by rw [← nI_1]; rfl) (by decide) rfl (fun ls hl => ?_)
                                          refine lv_goto (tgt := 200) hx hb dMd_collect_249 (by decide) ?_
                                          rw [mdT_3, mdG_3, thF_1 v3 t ((if_pos ⟨c_218, Or.inr c_237⟩).symm)] at hP hD
                                          exact ih (t + 1) H locs ls (by omega) hP hD hS (lv_sub hl [1, 2, 0] rfl)
                              exact key5 3600 0 H locs ls (Nat.zero_add _) (by rw [thF_0, mdI_3]; exact hP) (by rw [thF_0, mdI_3]; exact hD) hS (lv_sub hl [1, 2, 0] rfl)
                            · exact absurd c_179 (not_not_intro (nI_le (Nat.le_refl _) (by omega)))
                          | succ n ih =>
                            intro t τ H locs ls hev hkp hP hD hS hl
                            obtain ⟨nd, k, nf, st, v, e5, htc, hnd, hO, hk, e7, e9, hbd, hfo, hev⟩ := hev
                            refine lv_iload_n hx hb dMd_collect_174 rfl (lv_at hl 2 rfl) ?_
                            refine lv_aload_n hx hb dMd_collect_175 rfl (lv_at hl 0 rfl) ?_
                            refine va_get (C := RMd) (T := TMd) (N := 25) (ci := 2) (v := .int (τ.M 5)) hx hb hg inMd hown hK hP 0 rfl rfl 18 (by decide) (hg _ f_Md_113) (fun _ h9 => h9) rfl dMd_collect_176 ?_
                            refine gx_top (z := nI nd) e5 ?_
                            refine lv_icmp_ge (tgt := 198) hx hb dMd_collect_179 (by decide) (fun c_179 => ?_) (fun c_179 => ?_)
                            · exact absurd c_179 (nI_ge htc (by omega))
                            · refine lv_aload_n hx hb dMd_collect_182 rfl (lv_at hl 0 rfl) ?_
                              refine lv_aload_n hx hb dMd_collect_183 rfl (lv_at hl 0 rfl) ?_
                              refine va_get (C := RMd) (T := TMd) (N := 25) (ci := 2) (v := .ref (b 14)) hx hb hg inMd hown hK hP 0 rfl rfl 19 (by decide) (hg _ f_Md_57) (fun _ h9 => h9) rfl dMd_collect_184 ?_
                              refine lv_iload_n hx hb dMd_collect_187 rfl (lv_at hl 2 rfl) ?_
                              refine va_iald hx hb hK hP 14 0 rfl rfl (vp_in_nI (show t < 3600 from (by omega)) (by decide)) dMd_collect_188 ?_
                              refine gx_top (z := (τ.A 13) t) (congrArg _ (nI_clamp (Nat.lt_trans (show t < 3600 from (by omega)) (by decide)))) ?_
                              refine gx_top (z := nI k) hO ?_
                              refine gx_callv (C := "NurseryRowModel") (As := [.int (nI k)]) (rest := []) E (qMd_findFields l D cI cZ b τ o k nf st v hk e7 e9 hbd hfo (hkp.o ho2) ho4) (gx_cwV hts l_Md_120 k_Md_findFields ki_Md_findFields ke_Md_findFields z_Md n_Md_findFields ⟨by decide, by decide⟩) hK hP hD hS hA (va_recv hK hP (ci := 2) (q0 := 0) rfl rfl) hl.1 rfl rfl (Nat.le_of_ble_eq_true rfl) ⟨by decide, by decide⟩ dMd_collect_189 (fun u_8 H locs hq_9 hP hD hS => ?_)
                              subst hq_9
                              refine lv_iinc (v := nI (t + 1)) (lv' := [(2, .int (nI (t + 1))), (0, .ref (b 0)), (1, .int (((((μ.A 2) 0) - ((μ.A 0) 0)) + ((μ.A 2) rw)) - ((μ.A 0) rw)))]) hx hb dMd_collect_192 hl (k := 2) rfl (by rw [← nI_1]; rfl) (by decide) rfl (fun ls hl => ?_)
                              refine lv_goto (tgt := 174) hx hb dMd_collect_195 (by decide) ?_
                              exact ih (t + 1) _ H locs ls hev (hkp.trans hfo.kept) hP hD hS (lv_sub hl [1, 2, 0] rfl)
                        exact key4 nC 0 v2 H locs ls heC hkp hP hD hS (lv_sub hl [1, 2, 0] rfl)
                      · exact absurd c_153 (not_not_intro (nI_le (by omega) (by omega)))
                    | succ n ih =>
                      intro t τ H locs ls hte hev hkp hP hD hS hl
                      obtain ⟨k, nf, st, v, hi, hO, hk, e7, e9, hbd, hfo, hev⟩ := hev
                      have e4 : τ.M 4 = nI n3 := by rw [hkp.2.2.2.2.2.2.2.2.2.2.2.2.2.2.1]; exact h42
                      refine lv_iload_n hx hb dMd_collect_148 rfl (lv_at hl 2 rfl) ?_
                      refine lv_aload_n hx hb dMd_collect_149 rfl (lv_at hl 0 rfl) ?_
                      refine va_get (C := RMd) (T := TMd) (N := 25) (ci := 2) (v := .int (τ.M 4)) hx hb hg inMd hown hK hP 0 rfl rfl 16 (by decide) (hg _ f_Md_76) (fun _ h9 => h9) rfl dMd_collect_150 ?_
                      refine gx_top (z := nI n3) e4 ?_
                      refine lv_icmp_ge (tgt := 172) hx hb dMd_collect_153 (by decide) (fun c_153 => ?_) (fun c_153 => ?_)
                      · exact absurd c_153 (nI_ge (by omega) (by omega))
                      · refine lv_aload_n hx hb dMd_collect_156 rfl (lv_at hl 0 rfl) ?_
                        refine lv_aload_n hx hb dMd_collect_157 rfl (lv_at hl 0 rfl) ?_
                        refine va_get (C := RMd) (T := TMd) (N := 25) (ci := 2) (v := .ref (b 13)) hx hb hg inMd hown hK hP 0 rfl rfl 17 (by decide) (hg _ f_Md_54) (fun _ h9 => h9) rfl dMd_collect_158 ?_
                        refine lv_iload_n hx hb dMd_collect_161 rfl (lv_at hl 2 rfl) ?_
                        refine va_iald hx hb hK hP 13 0 rfl rfl (vp_in_nI (show t < 3600 from hi) (by decide)) dMd_collect_162 ?_
                        refine gx_top (z := (τ.A 12) t) (congrArg _ (nI_clamp (Nat.lt_trans (show t < 3600 from hi) (by decide)))) ?_
                        refine gx_top (z := nI k) hO ?_
                        refine gx_callv (C := "NurseryRowModel") (As := [.int (nI k)]) (rest := []) E (qMd_findFields l D cI cZ b τ o k nf st v hk e7 e9 hbd hfo (hkp.o ho2) ho4) (gx_cwV hts l_Md_120 k_Md_findFields ki_Md_findFields ke_Md_findFields z_Md n_Md_findFields ⟨by decide, by decide⟩) hK hP hD hS hA (va_recv hK hP (ci := 2) (q0 := 0) rfl rfl) hl.1 rfl rfl (Nat.le_of_ble_eq_true rfl) ⟨by decide, by decide⟩ dMd_collect_163 (fun u_11 H locs hq_12 hP hD hS => ?_)
                        subst hq_12
                        refine lv_iinc (v := nI (t + 1)) (lv' := [(2, .int (nI (t + 1))), (0, .ref (b 0)), (1, .int (((((μ.A 2) 0) - ((μ.A 0) 0)) + ((μ.A 2) rw)) - ((μ.A 0) rw)))]) hx hb dMd_collect_166 hl (k := 2) rfl (by rw [← nI_1]; rfl) (by decide) rfl (fun ls hl => ?_)
                        refine lv_goto (tgt := 148) hx hb dMd_collect_169 (by decide) ?_
                        exact ih (t + 1) _ H locs ls (by omega) hev (hkp.trans hfo.kept) hP hD hS (lv_sub hl [1, 2, 0] rfl)
                  exact key3 n3 0 v1 H locs ls (Nat.zero_add _) heO hkp hP hD hS (lv_sub hl [1, 2, 0] rfl)
                · exact absurd c_127 (not_not_intro (nI_le (a := 16) (by omega) (by omega)))
              | succ n ih =>
                intro t τ H locs ls hte hev hkp hP hD hS hl
                obtain ⟨v, hfo, hev⟩ := hev
                refine lv_iload_n hx hb dMd_collect_124 rfl (lv_at hl 2 rfl) ?_
                refine lv_bipush (v := 16) hx hb dMd_collect_125 (by decide) ?_
                refine lv_icmp_ge (tgt := 146) hx hb dMd_collect_127 (by decide) (fun c_127 => ?_) (fun c_127 => ?_)
                · exact absurd c_127 (nI_ge (b := 16) (by omega) (by decide))
                · refine lv_aload_n hx hb dMd_collect_130 rfl (lv_at hl 0 rfl) ?_
                  refine lv_aload_n hx hb dMd_collect_131 rfl (lv_at hl 0 rfl) ?_
                  refine va_get (C := RMd) (T := TMd) (N := 25) (ci := 2) (v := .ref (b 16)) hx hb hg inMd hown hK hP 0 rfl rfl 21 (by decide) (hg _ f_Md_63) (fun _ h9 => h9) rfl dMd_collect_132 ?_
                  refine lv_iload_n hx hb dMd_collect_135 rfl (lv_at hl 2 rfl) ?_
                  refine va_iald hx hb hK hP 16 0 rfl rfl (vp_in_nI (show t < 16 from (by omega)) (by decide)) dMd_collect_136 ?_
                  refine gx_top (z := (τ.A 15) t) (congrArg _ (nI_clamp (Nat.lt_trans (show t < 16 from (by omega)) (by decide)))) ?_
                  refine gx_callv (C := "NurseryRowModel") (As := [.int ((τ.A 15) t)]) (rest := []) E (qMd_find l D cI cZ b τ o ((τ.A 15) t) v hfo (hkp.o ho2) ho4) (gx_cwV hts l_Md_116 k_Md_find ki_Md_find ke_Md_find z_Md n_Md_find ⟨by decide, by decide⟩) hK hP hD hS hA (va_recv hK hP (ci := 2) (q0 := 0) rfl rfl) hl.1 rfl rfl (Nat.le_of_ble_eq_true rfl) ⟨by decide, by decide⟩ dMd_collect_137 (fun u_14 H locs hq_15 hP hD hS => ?_)
                  subst hq_15
                  refine lv_iinc (v := nI (t + 1)) (lv' := [(2, .int (nI (t + 1))), (0, .ref (b 0)), (1, .int (((((μ.A 2) 0) - ((μ.A 0) 0)) + ((μ.A 2) rw)) - ((μ.A 0) rw)))]) hx hb dMd_collect_140 hl (k := 2) rfl (by rw [← nI_1]; rfl) (by decide) rfl (fun ls hl => ?_)
                  refine lv_goto (tgt := 124) hx hb dMd_collect_143 (by decide) ?_
                  exact ih (t + 1) _ H locs ls (by omega) hev (hkp.trans hfo.kept) hP hD hS (lv_sub hl [1, 2, 0] rfl)
            exact key2 16 0 μ2 H locs ls rfl heR (fKp.rfl' _) hP hD hS (lv_sub hl [1, 2, 0] rfl)
          · exact absurd c_106 (by decide)
        | succ n ih =>
          intro t H locs ls hte hP hD hS hl
          refine lv_iload_n hx hb dMd_collect_102 rfl (lv_at hl 2 rfl) ?_
          refine lv_sipush (v := 3600) hx hb dMd_collect_103 (by decide) ?_
          refine lv_icmp_ge (tgt := 122) hx hb dMd_collect_106 (by decide) (fun c_106 => ?_) (fun c_106 => ?_)
          · exact absurd c_106 (nI_ge (b := 3600) (by omega) (by decide))
          · refine lv_aload_n hx hb dMd_collect_109 rfl (lv_at hl 0 rfl) ?_
            refine va_get (C := RMd) (T := TMd) (N := 25) (ci := 2) (v := .ref (b 15)) hx hb hg inMd hown hK hP 0 rfl rfl 20 (by decide) (hg _ f_Md_60) (fun _ h9 => h9) rfl dMd_collect_110 ?_
            refine lv_iload_n hx hb dMd_collect_113 rfl (lv_at hl 2 rfl) ?_
            refine lv_iconst (v := 0) hx hb dMd_collect_114 (by decide) ?_
            refine va_zast hx hb hK hP hD hS 15 1 rfl rfl (vp_in_nI (show t < 3600 from (by omega)) (by decide)) dMd_collect_115 (fun H locs hP hD hS => ?_)
            rw [show vp_nar .boolean 0 = 0 from rfl] at hP hD
            rw [nI_clamp (Nat.lt_trans (show t < 3600 from (by omega)) (by decide))] at hP hD
            rw [mdA_14] at hP hD
            refine lv_iinc (v := nI (t + 1)) (lv' := [(2, .int (nI (t + 1))), (0, .ref (b 0)), (1, .int (((((μ.A 2) 0) - ((μ.A 0) 0)) + ((μ.A 2) rw)) - ((μ.A 0) rw)))]) hx hb dMd_collect_116 hl (k := 2) rfl (by rw [← nI_1]; rfl) (by decide) rfl (fun ls hl => ?_)
            refine lv_goto (tgt := 102) hx hb dMd_collect_119 (by decide) ?_
            rw [mdT_14, mdG_14, fillF_1 _ (Nat.zero_le t)] at hP hD
            exact ih (t + 1) H locs ls (by omega) hP hD hS (lv_sub hl [1, 2, 0] rfl)
      exact key1 3600 0 H locs ls (Nat.zero_add _) (by rw [fillF_0, mdI_14]; exact hP) (by rw [fillF_0, mdI_14]; exact hD) hS (lv_sub hl [2, 1, 0] rfl)
    · exact absurd c_68 (by decide)
