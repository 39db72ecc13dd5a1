/-! THE REFERENCE: tidy, collect -/
def stM (μ : mSt) (k : Nat) : Nat := (μ.A 9 k).toNatClampNeg
def lnM (μ : mSt) (k : Nat) : Nat := (μ.A 7 k).toNatClampNeg + (μ.A 8 k).toNatClampNeg
/-- g's n from fr on, put into f from lo on -/
def cpF (f : Nat → Int32) (lo : Nat) (g : Nat → Int32) (fr n : Nat) : Nat → Int32 := fun j => if lo ≤ j ∧ j < lo + n then g (fr + (j - lo)) else f j
theorem cpF_0 (f : Nat → Int32) (lo : Nat) (g : Nat → Int32) (fr : Nat) : cpF f lo g fr 0 = f := funext fun j => by simp only [cpF]; rw [if_neg (by omega)]
theorem cpF_1 (f : Nat → Int32) (lo : Nat) (g : Nat → Int32) (fr n : Nat) : upd (cpF f lo g fr n) (lo + n) (g (fr + n)) = cpF f lo g fr (n + 1) := funext fun j => by
  simp only [cpF, upd]
  by_cases e : j = lo + n
  · rw [if_pos e, if_pos (by omega), e, show lo + n - lo = n by omega]
  · rw [if_neg e]
    by_cases q : lo ≤ j ∧ j < lo + n
    · rw [if_pos q, if_pos (by omega)]
    · rw [if_neg q, if_neg (by omega)]
/-- how many places the first t numbers fill -/
def tdN (μ : mSt) : Nat → Nat
  | 0 => 0
  | t + 1 => tdN μ t + (if μ.A 3 t = 0 then 0 else lnM μ t)
def tdS (μ : mSt) (t : Nat) : Nat → Int32 := fun j => if j < t ∧ ¬ μ.A 3 j = 0 then nI (tdN μ j) else μ.A 9 j
def tdP (μ : mSt) : Nat → Nat → Int32
  | 0 => μ.A 11
  | t + 1 => if μ.A 3 t = 0 then tdP μ t else cpF (tdP μ t) (tdN μ t) (μ.A 10) (stM μ t) (lnM μ t)
theorem tdS_0 (μ : mSt) : tdS μ 0 = μ.A 9 := funext fun j => by simp only [tdS]; rw [if_neg (by omega)]
theorem tdS_n (μ : mSt) {t : Nat} (h : μ.A 3 t = 0) : tdS μ (t + 1) = tdS μ t := funext fun j => by
  simp only [tdS]
  by_cases e : j = t
  · subst e; rw [if_neg (fun z => z.2 h), if_neg (fun z => z.2 h)]
  · by_cases q : j < t ∧ ¬ μ.A 3 j = 0
    · rw [if_pos q, if_pos ⟨by omega, q.2⟩]
    · rw [if_neg q, if_neg (fun z => q ⟨by omega, z.2⟩)]
theorem tdS_y (μ : mSt) {t : Nat} (h : ¬ μ.A 3 t = 0) : upd (tdS μ t) t (nI (tdN μ t)) = tdS μ (t + 1) := funext fun j => by
  simp only [tdS, upd]
  by_cases e : j = t
  · subst e; rw [if_pos rfl, if_pos ⟨by omega, h⟩]
  · rw [if_neg e]
    by_cases q : j < t ∧ ¬ μ.A 3 j = 0
    · rw [if_pos q, if_pos ⟨by omega, q.2⟩]
    · rw [if_neg q, if_neg (fun z => q ⟨by omega, z.2⟩)]
theorem tdS_at (μ : mSt) (t : Nat) : tdS μ t t = μ.A 9 t := by simp only [tdS]; rw [if_neg (by omega)]
theorem tdP_n (μ : mSt) {t : Nat} (h : μ.A 3 t = 0) : tdP μ (t + 1) = tdP μ t := by simp only [tdP]; rw [if_pos h]
theorem tdP_y (μ : mSt) {t : Nat} (h : ¬ μ.A 3 t = 0) : tdP μ (t + 1) = cpF (tdP μ t) (tdN μ t) (μ.A 10) (stM μ t) (lnM μ t) := by simp only [tdP]; rw [if_neg h]
theorem tdN_n (μ : mSt) {t : Nat} (h : μ.A 3 t = 0) : tdN μ (t + 1) = tdN μ t := by simp only [tdN]; rw [if_pos h, Nat.add_zero]
theorem tdN_y (μ : mSt) {t : Nat} (h : ¬ μ.A 3 t = 0) : tdN μ (t + 1) = tdN μ t + lnM μ t := by simp only [tdN]; rw [if_neg h]
theorem tdN_le (μ : mSt) {a b : Nat} (h : a ≤ b) : tdN μ a ≤ tdN μ b := by
  induction b with
  | zero => rw [show a = 0 by omega]; exact Nat.le_refl _
  | succ b ih =>
    rcases Nat.lt_or_eq_of_le h with q | q
    · exact Nat.le_trans (ih (by omega)) (by simp only [tdN]; omega)
    · rw [q]; exact Nat.le_refl _
/-- the numbers that are there fit -/
def TdH (μ : mSt) : Prop := (∀ k, k < 3600 → ¬ μ.A 3 k = 0 → ∃ nf nw st : Nat, μ.A 7 k = nI nf ∧ μ.A 8 k = nI nw ∧ μ.A 9 k = nI st ∧ nf ≤ 200 ∧ nw ≤ 200 ∧ st + (nf + nw) ≤ 24000) ∧ tdN μ 3600 ≤ 24000
theorem TdH.at {μ : mSt} (h : TdH μ) {k : Nat} (hk : k < 3600) (h3 : ¬ μ.A 3 k = 0) : μ.A 9 k = nI (stM μ k) ∧ μ.A 7 k + μ.A 8 k = nI (lnM μ k) ∧ lnM μ k ≤ 400 ∧ stM μ k + lnM μ k ≤ 24000 := by
  obtain ⟨nf, nw, st, h7, h8, h9, a, b, c⟩ := h.1 k hk h3
  have e1 : lnM μ k = nf + nw := by simp only [lnM]; rw [h7, h8, nI_clamp (by omega), nI_clamp (by omega)]
  have e2 : stM μ k = st := by simp only [stM]; rw [h9, nI_clamp (by omega)]
  rw [e1, e2]
  exact ⟨h9, by rw [h7, h8, nI_add], by omega, by omega⟩
/-- f's first n, then g's -/
def hdF (f g : Nat → Int32) (n : Nat) : Nat → Int32 := fun j => if j < n then f j else g j
theorem hdF_0 (f g : Nat → Int32) : hdF f g 0 = g := funext fun j => by simp only [hdF]; rw [if_neg (by omega)]
theorem hdF_1 (f g : Nat → Int32) (n : Nat) : upd (hdF f g n) n (f n) = hdF f g (n + 1) := funext fun j => by
  simp only [hdF, upd]
  by_cases e : j = n
  · rw [if_pos e, if_pos (by omega), e]
  · rw [if_neg e]
    by_cases q : j < n
    · rw [if_pos q, if_pos (by omega)]
    · rw [if_neg q, if_neg (by omega)]
def tidM (μ : mSt) : mSt := (((μ.sA 9 (tdS μ 3600)).sA 11 (tdP μ 3600)).sA 10 (hdF (tdP μ 3600) (μ.A 10) (tdN μ 3600))).sM 3 (nI (tdN μ 3600))
theorem mdN_0 (cI cZ : ClassId) (b : Nat → Nat) (μ : mSt) : mdW cI cZ b ((μ.sA 9 (μ.A 9)).sA 11 (μ.A 11)) = mdW cI cZ b μ := rfl
theorem mdN_1 (cI cZ : ClassId) (b : Nat → Nat) (μ : mSt) (f g h : Nat → Int32) : mdW cI cZ b (((μ.sA 9 f).sA 11 g).sA 9 h) = mdW cI cZ b ((μ.sA 9 h).sA 11 g) := rfl
theorem mdN_2 (cI cZ : ClassId) (b : Nat → Nat) (μ : mSt) (f g h : Nat → Int32) : mdW cI cZ b (((μ.sA 9 f).sA 11 g).sA 11 h) = mdW cI cZ b ((μ.sA 9 f).sA 11 h) := rfl
theorem mdN_3 (μ : mSt) (f g : Nat → Int32) : ((μ.sA 9 f).sA 11 g).A 9 = f := rfl
theorem mdN_4 (μ : mSt) (f g : Nat → Int32) : ((μ.sA 9 f).sA 11 g).A 11 = g := rfl
set_option maxHeartbeats 4000000 in
set_option maxRecDepth 100000 in
/-- the data close up -/
theorem qMd_tidy (l : Launch) (D : va_G) (cI cZ : ClassId) (b : Nat → Nat) (μ : mSt) (h : TdH μ) : gx_Mv l yMd_tidy (Cond.code yMd_tidy cMd_tidy 5 none :: gW) (gR 0) D gC (mdT cI cZ) (mdW cI cZ b) μ [.ref (b 0)] (fun u => u = tidM μ) := by
  refine gx_Mv.of (cc := cMd_tidy) (maxL := 5) (by decide) rfl (Nat.le_of_ble_eq_true rfl) ?_
  intro p e s m args below meth c ls A E hA hK hP hD hS hl
  obtain ⟨hx, hb, hr, hml, hts, hown, hlocks, hnm⟩ := id E
  have hg : ∀ w ∈ gW, w.before args s = true := fun w h => hts w (List.mem_cons_of_mem _ h)
  have hown : s.vm.findClass "NurseryRowModel" = some m.cls := hown
  have hl : lv_has ls 5 [(0, .ref (b 0))] := hl
  refine lv_iconst (v := 0) hx hb dMd_tidy_0 (by decide) ?_
  refine lv_istore_n (lv' := [(1, .int 0), (0, .ref (b 0))]) hx hb dMd_tidy_1 rfl hl (by decide) rfl (fun ls hl => ?_)
  refine lv_iconst (v := 0) hx hb dMd_tidy_2 (by decide) ?_
  refine lv_istore_n (lv' := [(2, .int 0), (1, .int 0), (0, .ref (b 0))]) hx hb dMd_tidy_3 rfl hl (by decide) rfl (fun ls hl => ?_)
  have key : ∀ (n : Nat) (t : Nat) (H : Heap) (locs : List Loc) (ls : Array Slot), (t + n = 3600) → va_P D gC (mdW cI cZ b ((μ.sA 9 (tdS μ t)).sA 11 (tdP μ t))) H → va_D A (mdW cI cZ b ((μ.sA 9 (tdS μ t)).sA 11 (tdP μ t))) → va_S A s.heap H locs → lv_has ls 5 [(0, .ref (b 0)), (1, .int (nI (tdN μ t))), (2, .int (nI t))] → W p l e (gR 0) s m args below meth c H locs 0 0 (MQ below (va_Qv (fun u => u = tidM μ) (gx_B D gC (mdT cI cZ) (mdW cI cZ b) A) A) args s 0 0 A) (F0 m 4 ls []) := by
    intro n
    induction n with
    | zero =>
      intro t H locs ls hte hP hD hS hl
      have hte : t = 3600 := hte
      subst hte
      have hNB := h.2
      have hl : lv_has ls 5 [(0, .ref (b 0)), (1, .int (nI (tdN μ 3600))), (2, .int 3600)] := hl
      refine lv_iload_n hx hb dMd_tidy_4 rfl (lv_at hl 2 rfl) ?_
      refine lv_sipush (v := 3600) hx hb dMd_tidy_5 (by decide) ?_
      refine lv_icmp_ge (tgt := 85) hx hb dMd_tidy_8 (by decide) (fun c_8 => ?_) (fun c_8 => ?_)
      · refine lv_iconst (v := 0) hx hb dMd_tidy_85 (by decide) ?_
        refine lv_istore_n (lv' := [(2, .int 0), (0, .ref (b 0)), (1, .int (nI (tdN μ 3600)))]) hx hb dMd_tidy_86 rfl hl (by decide) rfl (fun ls hl => ?_)
        have key3 : ∀ (n : Nat) (i : Nat) (H : Heap) (locs : List Loc) (ls : Array Slot), (i + n = tdN μ 3600) → va_P D gC (mdW cI cZ b (((μ.sA 9 (tdS μ 3600)).sA 11 (tdP μ 3600)).sA 10 (hdF (tdP μ 3600) (μ.A 10) i))) H → va_D A (mdW cI cZ b (((μ.sA 9 (tdS μ 3600)).sA 11 (tdP μ 3600)).sA 10 (hdF (tdP μ 3600) (μ.A 10) i))) → va_S A s.heap H locs → lv_has ls 5 [(0, .ref (b 0)), (1, .int (nI (tdN μ 3600))), (2, .int (nI i))] → W p l e (gR 0) s m args below meth c H locs 0 0 (MQ below (va_Qv (fun u => u = tidM μ) (gx_B D gC (mdT cI cZ) (mdW cI cZ b) A) A) args s 0 0 A) (F0 m 87 ls []) := by
          intro n
          induction n with
          | zero =>
            intro i H locs ls hie hP hD hS hl
            have hie : i = tdN μ 3600 := hie
            refine lv_iload_n hx hb dMd_tidy_87 rfl (lv_at hl 2 rfl) ?_
            refine lv_iload_n hx hb dMd_tidy_88 rfl (lv_at hl 1 rfl) ?_
            refine lv_icmp_ge (tgt := 110) hx hb dMd_tidy_89 (by decide) (fun c_89 => ?_) (fun c_89 => ?_)
            · refine lv_aload_n hx hb dMd_tidy_110 rfl (lv_at hl 0 rfl) ?_
              refine lv_iload_n hx hb dMd_tidy_111 rfl (lv_at hl 1 rfl) ?_
              refine va_put (C := RMd) (T := TMd) (N := 25) (ci := 2) (v := .int (nI (tdN μ 3600))) hx hb hg inMd tyMd tyMd_ok nmMd hown hK hP hD hS 0 rfl rfl 13 (by decide) (hg _ f_Md_73) (fun _ h9 => h9) rfl (tyMd_ok 13 (by decide)) rfl rfl (Nat.le_of_ble_eq_true rfl) dMd_tidy_112 (fun H locs hP hD hS => ?_)
              rw [mdM_3] at hP hD
              exact gx_vret (u := (((μ.sA 9 (tdS μ 3600)).sA 11 (tdP μ 3600)).sA 10 (hdF (tdP μ 3600) (μ.A 10) i)).sM 3 (nI (tdN μ 3600))) E hK hP hD hS (by rw [hie]; unfold tidM; rfl) dMd_tidy_115
            · exact absurd c_89 (not_not_intro (nI_le (by omega) (by omega)))
          | succ n ih =>
            intro i H locs ls hie hP hD hS hl
            have hlt2 : i < tdN μ 3600 := by omega
            refine lv_iload_n hx hb dMd_tidy_87 rfl (lv_at hl 2 rfl) ?_
            refine lv_iload_n hx hb dMd_tidy_88 rfl (lv_at hl 1 rfl) ?_
            refine lv_icmp_ge (tgt := 110) hx hb dMd_tidy_89 (by decide) (fun c_89 => ?_) (fun c_89 => ?_)
            · exact absurd c_89 (nI_ge hlt2 (by omega))
            · refine lv_aload_n hx hb dMd_tidy_92 rfl (lv_at hl 0 rfl) ?_
              refine va_get (C := RMd) (T := TMd) (N := 25) (ci := 2) (v := .ref (b 11)) hx hb hg inMd hown hK hP 0 rfl rfl 14 (by decide) (hg _ f_Md_48) (fun _ h9 => h9) rfl dMd_tidy_93 ?_
              refine lv_iload_n hx hb dMd_tidy_96 rfl (lv_at hl 2 rfl) ?_
              refine lv_aload_n hx hb dMd_tidy_97 rfl (lv_at hl 0 rfl) ?_
              refine va_get (C := RMd) (T := TMd) (N := 25) (ci := 2) (v := .ref (b 12)) hx hb hg inMd hown hK hP 0 rfl rfl 15 (by decide) (hg _ f_Md_51) (fun _ h9 => h9) rfl dMd_tidy_98 ?_
              refine lv_iload_n hx hb dMd_tidy_101 rfl (lv_at hl 2 rfl) ?_
              refine va_iald hx hb hK hP 12 0 rfl rfl (vp_in_nI (show i < 24000 from (by omega)) (by decide)) dMd_tidy_102 ?_
              refine gx_top (z := (tdP μ 3600) i) (congrArg _ (nI_clamp (Nat.lt_trans (show i < 24000 from (by omega)) (by decide)))) ?_
              refine va_iast hx hb hK hP hD hS 11 0 rfl rfl (vp_in_nI (show i < 24000 from (by omega)) (by decide)) dMd_tidy_103 (fun H locs hP hD hS => ?_)
              rw [nI_clamp (Nat.lt_trans (show i < 24000 from (by omega)) (by decide))] at hP hD
              rw [mdA_10] at hP hD
              refine lv_iinc (v := nI (i + 1)) (lv' := [(2, .int (nI (i + 1))), (0, .ref (b 0)), (1, .int (nI (tdN μ 3600)))]) hx hb dMd_tidy_104 hl (k := 2) rfl (by rw [← nI_1]; rfl) (by decide) rfl (fun ls hl => ?_)
              refine lv_goto (tgt := 87) hx hb dMd_tidy_107 (by decide) ?_
              rw [mdT_10, mdG_10, hdF_1] at hP hD
              exact ih (i + 1) H locs ls (by omega) hP hD hS (lv_sub hl [1, 2, 0] rfl)
        exact key3 (tdN μ 3600) 0 H locs ls (Nat.zero_add _) (by rw [hdF_0, show μ.A 10 = ((μ.sA 9 (tdS μ 3600)).sA 11 (tdP μ 3600)).A 10 from rfl, mdI_10]; exact hP) (by rw [hdF_0, show μ.A 10 = ((μ.sA 9 (tdS μ 3600)).sA 11 (tdP μ 3600)).A 10 from rfl, mdI_10]; exact hD) hS (lv_sub hl [1, 2, 0] rfl)
      · exact absurd c_8 (by decide)
    | succ n ih =>
      intro t H locs ls hte hP hD hS hl
      have hlt : t < 3600 := by omega
      refine lv_iload_n hx hb dMd_tidy_4 rfl (lv_at hl 2 rfl) ?_
      refine lv_sipush (v := 3600) hx hb dMd_tidy_5 (by decide) ?_
      refine lv_icmp_ge (tgt := 85) hx hb dMd_tidy_8 (by decide) (fun c_8 => ?_) (fun c_8 => ?_)
      · exact absurd c_8 (nI_ge (b := 3600) (by omega) (by decide))
      · refine lv_aload_n hx hb dMd_tidy_11 rfl (lv_at hl 0 rfl) ?_
        refine va_get (C := RMd) (T := TMd) (N := 25) (ci := 2) (v := .ref (b 4)) hx hb hg inMd hown hK hP 0 rfl rfl 6 (by decide) (hg _ f_Md_26) (fun _ h9 => h9) rfl dMd_tidy_12 ?_
        refine lv_iload_n hx hb dMd_tidy_15 rfl (lv_at hl 2 rfl) ?_
        refine va_zald hx hb hK hP 4 1 rfl rfl (vp_in_nI (show t < 3600 from hlt) (by decide)) dMd_tidy_16 ?_
        refine gx_top (z := (μ.A 3) t) (congrArg _ (nI_clamp (Nat.lt_trans (show t < 3600 from hlt) (by decide)))) ?_
        refine lv_if_eq (tgt := 79) hx hb dMd_tidy_17 (by decide) (fun c_17 => ?_) (fun c_17 => ?_)
        · rw [← tdS_n μ c_17, ← tdP_n μ c_17] at hP hD
          have hn1 : nI (tdN μ t) = nI (tdN μ (t + 1)) := by rw [tdN_n μ c_17]
          rw [hn1] at hl
          refine lv_iinc (v := nI (t + 1)) (lv' := [(2, .int (nI (t + 1))), (0, .ref (b 0)), (1, .int (nI (tdN μ (t + 1))))]) hx hb dMd_tidy_79 hl (k := 2) rfl (by rw [← nI_1]; rfl) (by decide) rfl (fun ls hl => ?_)
          refine lv_goto (tgt := 4) hx hb dMd_tidy_82 (by decide) ?_
          exact ih (t + 1) H locs ls (by omega) hP hD hS (lv_sub hl [1, 2, 0] rfl)
        · obtain ⟨a9, aL, aL4, aB⟩ := h.at hlt c_17
          have aT := tdN_le μ (show t + 1 ≤ 3600 by omega)
          rw [tdN_y μ c_17] at aT
          have aT2 := h.2
          refine lv_aload_n hx hb dMd_tidy_20 rfl (lv_at hl 0 rfl) ?_
          refine va_get (C := RMd) (T := TMd) (N := 25) (ci := 2) (v := .ref (b 10)) hx hb hg inMd hown hK hP 0 rfl rfl 12 (by decide) (hg _ f_Md_45) (fun _ h9 => h9) rfl dMd_tidy_21 ?_
          refine lv_iload_n hx hb dMd_tidy_24 rfl (lv_at hl 2 rfl) ?_
          refine va_iald hx hb hK hP 10 0 rfl rfl (vp_in_nI (show t < 3600 from hlt) (by decide)) dMd_tidy_25 ?_
          refine gx_top (z := (tdS μ t) t) (congrArg _ (nI_clamp (Nat.lt_trans (show t < 3600 from hlt) (by decide)))) ?_
          refine gx_top (z := nI (stM μ t)) ((tdS_at μ t).trans a9) ?_
          refine lv_istore_n (lv' := [(3, .int (nI (stM μ t))), (0, .ref (b 0)), (1, .int (nI (tdN μ t))), (2, .int (nI t))]) hx hb dMd_tidy_26 rfl hl (by decide) rfl (fun ls hl => ?_)
          refine lv_aload_n hx hb dMd_tidy_27 rfl (lv_at hl 1 rfl) ?_
          refine va_get (C := RMd) (T := TMd) (N := 25) (ci := 2) (v := .ref (b 10)) hx hb hg inMd hown hK hP 0 rfl rfl 12 (by decide) (hg _ f_Md_45) (fun _ h9 => h9) rfl dMd_tidy_28 ?_
          refine lv_iload_n hx hb dMd_tidy_31 rfl (lv_at hl 3 rfl) ?_
          refine lv_iload_n hx hb dMd_tidy_32 rfl (lv_at hl 2 rfl) ?_
          refine va_iast hx hb hK hP hD hS 10 0 rfl rfl (vp_in_nI (show t < 3600 from hlt) (by decide)) dMd_tidy_33 (fun H locs hP hD hS => ?_)
          rw [nI_clamp (Nat.lt_trans (show t < 3600 from hlt) (by decide))] at hP hD
          rw [mdA_9] at hP hD
          refine lv_iconst (v := 0) hx hb dMd_tidy_34 (by decide) ?_
          refine lv_istore (lv' := [(4, .int 0), (3, .int (nI (stM μ t))), (0, .ref (b 0)), (1, .int (nI (tdN μ t))), (2, .int (nI t))]) hx hb dMd_tidy_35 hl (by decide) rfl (fun ls hl => ?_)
          rw [mdN_1, mdN_3, tdS_y μ c_17] at hP hD
          have key2 : ∀ (n : Nat) (i : Nat) (H : Heap) (locs : List Loc) (ls : Array Slot), (i + n = lnM μ t) → va_P D gC (mdW cI cZ b ((μ.sA 9 (tdS μ (t + 1))).sA 11 (cpF (tdP μ t) (tdN μ t) (μ.A 10) (stM μ t) i))) H → va_D A (mdW cI cZ b ((μ.sA 9 (tdS μ (t + 1))).sA 11 (cpF (tdP μ t) (tdN μ t) (μ.A 10) (stM μ t) i))) → va_S A s.heap H locs → lv_has ls 5 [(0, .ref (b 0)), (1, .int (nI (tdN μ t + i))), (2, .int (nI t)), (3, .int (nI (stM μ t))), (4, .int (nI i))] → W p l e (gR 0) s m args below meth c H locs 0 0 (MQ below (va_Qv (fun u => u = tidM μ) (gx_B D gC (mdT cI cZ) (mdW cI cZ b) A) A) args s 0 0 A) (F0 m 37 ls []) := by
            intro n
            induction n with
            | zero =>
              intro i H locs ls hie hP hD hS hl
              have hie : i = lnM μ t := hie
              refine lv_iload hx hb dMd_tidy_37 (lv_at hl 4 rfl) ?_
              refine lv_aload_n hx hb dMd_tidy_39 rfl (lv_at hl 0 rfl) ?_
              refine va_get (C := RMd) (T := TMd) (N := 25) (ci := 2) (v := .ref (b 8)) hx hb hg inMd hown hK hP 0 rfl rfl 10 (by decide) (hg _ f_Md_39) (fun _ h9 => h9) rfl dMd_tidy_40 ?_
              refine lv_iload_n hx hb dMd_tidy_43 rfl (lv_at hl 2 rfl) ?_
              refine va_iald hx hb hK hP 8 0 rfl rfl (vp_in_nI (show t < 3600 from hlt) (by decide)) dMd_tidy_44 ?_
              refine gx_top (z := (μ.A 7) t) (congrArg _ (nI_clamp (Nat.lt_trans (show t < 3600 from hlt) (by decide)))) ?_
              refine lv_aload_n hx hb dMd_tidy_45 rfl (lv_at hl 0 rfl) ?_
              refine va_get (C := RMd) (T := TMd) (N := 25) (ci := 2) (v := .ref (b 9)) hx hb hg inMd hown hK hP 0 rfl rfl 11 (by decide) (hg _ f_Md_42) (fun _ h9 => h9) rfl dMd_tidy_46 ?_
              refine lv_iload_n hx hb dMd_tidy_49 rfl (lv_at hl 2 rfl) ?_
              refine va_iald hx hb hK hP 9 0 rfl rfl (vp_in_nI (show t < 3600 from hlt) (by decide)) dMd_tidy_50 ?_
              refine gx_top (z := (μ.A 8) t) (congrArg _ (nI_clamp (Nat.lt_trans (show t < 3600 from hlt) (by decide)))) ?_
              refine lv_iadd hx hb dMd_tidy_51 ?_
              refine gx_top (z := nI (lnM μ t)) aL ?_
              refine lv_icmp_ge (tgt := 79) hx hb dMd_tidy_52 (by decide) (fun c_52 => ?_) (fun c_52 => ?_)
              · rw [hie, ← tdP_y μ c_17] at hP hD
                have hn1 : nI (tdN μ t + i) = nI (tdN μ (t + 1)) := by rw [tdN_y μ c_17, hie]
                rw [hn1] at hl
                refine lv_iinc (v := nI (t + 1)) (lv' := [(2, .int (nI (t + 1))), (0, .ref (b 0)), (1, .int (nI (tdN μ (t + 1)))), (3, .int (nI (stM μ t))), (4, .int (nI i))]) hx hb dMd_tidy_79 hl (k := 2) rfl (by rw [← nI_1]; rfl) (by decide) rfl (fun ls hl => ?_)
                refine lv_goto (tgt := 4) hx hb dMd_tidy_82 (by decide) ?_
                exact ih (t + 1) H locs ls (by omega) hP hD hS (lv_sub hl [1, 2, 0] rfl)
              · exact absurd c_52 (not_not_intro (nI_le (by omega) (by omega)))
            | succ n ih =>
              intro i H locs ls hie hP hD hS hl
              have hlt2 : i < lnM μ t := by omega
              refine lv_iload hx hb dMd_tidy_37 (lv_at hl 4 rfl) ?_
              refine lv_aload_n hx hb dMd_tidy_39 rfl (lv_at hl 0 rfl) ?_
              refine va_get (C := RMd) (T := TMd) (N := 25) (ci := 2) (v := .ref (b 8)) hx hb hg inMd hown hK hP 0 rfl rfl 10 (by decide) (hg _ f_Md_39) (fun _ h9 => h9) rfl dMd_tidy_40 ?_
              refine lv_iload_n hx hb dMd_tidy_43 rfl (lv_at hl 2 rfl) ?_
              refine va_iald hx hb hK hP 8 0 rfl rfl (vp_in_nI (show t < 3600 from hlt) (by decide)) dMd_tidy_44 ?_
              refine gx_top (z := (μ.A 7) t) (congrArg _ (nI_clamp (Nat.lt_trans (show t < 3600 from hlt) (by decide)))) ?_
              refine lv_aload_n hx hb dMd_tidy_45 rfl (lv_at hl 0 rfl) ?_
              refine va_get (C := RMd) (T := TMd) (N := 25) (ci := 2) (v := .ref (b 9)) hx hb hg inMd hown hK hP 0 rfl rfl 11 (by decide) (hg _ f_Md_42) (fun _ h9 => h9) rfl dMd_tidy_46 ?_
              refine lv_iload_n hx hb dMd_tidy_49 rfl (lv_at hl 2 rfl) ?_
              refine va_iald hx hb hK hP 9 0 rfl rfl (vp_in_nI (show t < 3600 from hlt) (by decide)) dMd_tidy_50 ?_
              refine gx_top (z := (μ.A 8) t) (congrArg _ (nI_clamp (Nat.lt_trans (show t < 3600 from hlt) (by decide)))) ?_
              refine lv_iadd hx hb dMd_tidy_51 ?_
              refine gx_top (z := nI (lnM μ t)) aL ?_
              refine lv_icmp_ge (tgt := 79) hx hb dMd_tidy_52 (by decide) (fun c_52 => ?_) (fun c_52 => ?_)
              · exact absurd c_52 (nI_ge hlt2 (by omega))
              · refine lv_aload_n hx hb dMd_tidy_55 rfl (lv_at hl 0 rfl) ?_
                refine va_get (C := RMd) (T := TMd) (N := 25) (ci := 2) (v := .ref (b 12)) hx hb hg inMd hown hK hP 0 rfl rfl 15 (by decide) (hg _ f_Md_51) (fun _ h9 => h9) rfl dMd_tidy_56 ?_
                refine lv_iload_n hx hb dMd_tidy_59 rfl (lv_at hl 1 rfl) ?_
                refine lv_aload_n hx hb dMd_tidy_60 rfl (lv_at hl 0 rfl) ?_
                refine va_get (C := RMd) (T := TMd) (N := 25) (ci := 2) (v := .ref (b 11)) hx hb hg inMd hown hK hP 0 rfl rfl 14 (by decide) (hg _ f_Md_48) (fun _ h9 => h9) rfl dMd_tidy_61 ?_
                refine lv_iload_n hx hb dMd_tidy_64 rfl (lv_at hl 3 rfl) ?_
                refine lv_iload hx hb dMd_tidy_65 (lv_at hl 4 rfl) ?_
                refine lv_iadd hx hb dMd_tidy_67 ?_
                refine gx_top (z := nI (stM μ t + i)) (nI_add _ _) ?_
                refine va_iald hx hb hK hP 11 0 rfl rfl (vp_in_nI (show stM μ t + i < 24000 from (by omega)) (by decide)) dMd_tidy_68 ?_
                refine gx_top (z := (μ.A 10) (stM μ t + i)) (congrArg _ (nI_clamp (Nat.lt_trans (show stM μ t + i < 24000 from (by omega)) (by decide)))) ?_
                refine va_iast hx hb hK hP hD hS 12 0 rfl rfl (vp_in_nI (show tdN μ t + i < 24000 from (by omega)) (by decide)) dMd_tidy_69 (fun H locs hP hD hS => ?_)
                rw [nI_clamp (Nat.lt_trans (show tdN μ t + i < 24000 from (by omega)) (by decide))] at hP hD
                rw [mdA_11] at hP hD
                refine lv_iinc (v := nI (tdN μ t + (i + 1))) (lv' := [(1, .int (nI (tdN μ t + (i + 1)))), (0, .ref (b 0)), (2, .int (nI t)), (3, .int (nI (stM μ t))), (4, .int (nI i))]) hx hb dMd_tidy_70 hl (k := 1) rfl (nI_1 _) (by decide) rfl (fun ls hl => ?_)
                refine lv_iinc (v := nI (i + 1)) (lv' := [(4, .int (nI (i + 1))), (1, .int (nI (tdN μ t + (i + 1)))), (0, .ref (b 0)), (2, .int (nI t)), (3, .int (nI (stM μ t)))]) hx hb dMd_tidy_73 hl (k := 4) rfl (by rw [← nI_1]; rfl) (by decide) rfl (fun ls hl => ?_)
                refine lv_goto (tgt := 37) hx hb dMd_tidy_76 (by decide) ?_
                rw [mdN_2, mdN_4, cpF_1] at hP hD
                exact ih (i + 1) H locs ls (by omega) hP hD hS (lv_sub hl [2, 1, 3, 4, 0] rfl)
          exact key2 (lnM μ t) 0 H locs ls (Nat.zero_add _) (by rw [cpF_0]; exact hP) (by rw [cpF_0]; exact hD) hS (lv_sub hl [2, 3, 4, 1, 0] rfl)
  exact key 3600 0 _ _ ls (Nat.zero_add _) (by rw [tdS_0, show tdP μ 0 = μ.A 11 from rfl, mdN_0]; exact hP) (by rw [tdS_0, show tdP μ 0 = μ.A 11 from rfl, mdN_0]; exact hD) hS (lv_sub hl [2, 1, 0] rfl)
