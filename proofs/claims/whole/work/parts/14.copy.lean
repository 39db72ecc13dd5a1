/-! THE CLASS, a copy -/
theorem kx_st : Cond.static arraycopyName ∈ gW := gm 330 (by decide +kernel) (by decide +kernel)
theorem kx_na : Cond.native arraycopyName ∈ gW := gm 331 (by decide +kernel) (by decide +kernel)
set_option maxHeartbeats 4000000 in
set_option maxRecDepth 100000 in
/-- the copy's address is noted -/
theorem qNr_noteCopy (l : Launch) (D : va_G) (cI cP : ClassId) (a : Nat → Nat) (σ : nSt) (n : Nat) (b : Int32) (hn : n < 512) (hF : σ.F 0 = nI n) : gx_Mv l yNr_noteCopy (Cond.code yNr_noteCopy cNr_noteCopy 2 none :: gW) (gR 0) D gC (nrT cI cP) (nrW cI cP a) σ [.ref (a 0), .int b] (fun u => u = (σ.sC (upd σ.C n b)).sF 0 (nI (n + 1))) := by
  refine gx_Mv.of (cc := cNr_noteCopy) (maxL := 2) (by decide) rfl (Nat.le_of_ble_eq_true rfl) ?_
  intro p e s m args below meth c ls A E hA hK hP hD hS hl
  obtain ⟨hx, hb, hr, hml, hts, hown, hlocks, hnm⟩ := id E
  have hg : ∀ w ∈ gW, w.before args s = true := fun w h => hts w (List.mem_cons_of_mem _ h)
  have hown : s.vm.findClass "NurseryRow" = some m.cls := hown
  have hl : lv_has ls 2 [(0, .ref (a 0)), (1, .int b)] := hl
  refine lv_aload_n hx hb dNr_noteCopy_0 rfl (lv_at hl 0 rfl) ?_
  refine va_get (C := RNr) (T := TNr) (N := 10) (ci := 1) (v := .int (σ.F 0)) hx hb hg inNr hown hK hP 0 rfl rfl 4 (by decide) (hg _ f_Nr_123) (fun _ h9 => h9) rfl dNr_noteCopy_1 ?_
  refine gx_top (z := nI n) hF ?_
  refine lv_aload_n hx hb dNr_noteCopy_4 rfl (lv_at hl 0 rfl) ?_
  refine va_get (C := RNr) (T := TNr) (N := 10) (ci := 1) (v := .ref (a 7)) hx hb hg inNr hown hK hP 0 rfl rfl 2 (by decide) (hg _ f_Nr_20) (fun _ h9 => h9) rfl dNr_noteCopy_5 ?_
  refine va_alen (v := 512) hx hb hK hP 7 0 rfl rfl rfl dNr_noteCopy_8 ?_
  refine lv_icmp_ge (tgt := 32) hx hb dNr_noteCopy_9 (by decide) (fun c_9 => ?_) (fun c_9 => ?_)
  · exact absurd c_9 (nI_ge (b := 512) hn (by decide))
  · refine lv_aload_n hx hb dNr_noteCopy_12 rfl (lv_at hl 0 rfl) ?_
    refine va_get (C := RNr) (T := TNr) (N := 10) (ci := 1) (v := .ref (a 7)) hx hb hg inNr hown hK hP 0 rfl rfl 2 (by decide) (hg _ f_Nr_20) (fun _ h9 => h9) rfl dNr_noteCopy_13 ?_
    refine lv_aload_n hx hb dNr_noteCopy_16 rfl (lv_at hl 0 rfl) ?_
    refine va_get (C := RNr) (T := TNr) (N := 10) (ci := 1) (v := .int (σ.F 0)) hx hb hg inNr hown hK hP 0 rfl rfl 4 (by decide) (hg _ f_Nr_123) (fun _ h9 => h9) rfl dNr_noteCopy_17 ?_
    refine gx_top (z := nI n) hF ?_
    refine lv_iload_n hx hb dNr_noteCopy_20 rfl (lv_at hl 1 rfl) ?_
    refine va_iast hx hb hK hP hD hS 7 0 rfl rfl (vp_in_nI hn (by omega)) dNr_noteCopy_21 (fun H locs hP hD hS => ?_)
    rw [nI_clamp (show n < 2 ^ 31 by omega)] at hP hD
    have hP : va_P D gC (nrW cI cP a (σ.sC (upd σ.C n b))) H := hP
    have hD : va_D A (nrW cI cP a (σ.sC (upd σ.C n b))) := hD
    refine lv_aload_n hx hb dNr_noteCopy_22 rfl (lv_at hl 0 rfl) ?_
    refine lv_dup hx hb dNr_noteCopy_23 rfl ?_
    refine va_get (C := RNr) (T := TNr) (N := 10) (ci := 1) (v := .int (σ.F 0)) hx hb hg inNr hown hK hP 0 rfl rfl 4 (by decide) (hg _ f_Nr_123) (fun _ h9 => h9) rfl dNr_noteCopy_24 ?_
    refine gx_top (z := nI n) hF ?_
    refine lv_iconst (v := 1) hx hb dNr_noteCopy_27 (by decide) ?_
    refine lv_iadd hx hb dNr_noteCopy_28 ?_
    refine gx_top (z := nI (n + 1)) (nI_1 n) ?_
    refine va_put (C := RNr) (T := TNr) (N := 10) (ci := 1) (v := .int (nI (n + 1))) hx hb hg inNr tyNr tyNr_ok nmNr hown hK hP hD hS 0 rfl rfl 4 (by decide) (hg _ f_Nr_123) (fun _ h9 => h9) rfl (tyNr_ok 4 (by decide)) rfl rfl (Nat.le_of_ble_eq_true rfl) dNr_noteCopy_29 (fun H locs hP hD hS => ?_)
    have hP : va_P D gC (nrW cI cP a ((σ.sC (upd σ.C n b)).sF 0 (nI (n + 1)))) H := hP
    have hD : va_D A (nrW cI cP a ((σ.sC (upd σ.C n b)).sF 0 (nI (n + 1)))) := hD
    exact gx_vret (u := (σ.sC (upd σ.C n b)).sF 0 (nI (n + 1))) E hK hP hD hS rfl dNr_noteCopy_32
/-- a copy to a row: part j, from k, sz cells, to b, the nc-th -/
def cpR (σ : nSt) (j k sz b nc : Nat) : nSt :=
  ((((((σ.sP j (σ.P j 0, σ.P j 1, σ.P j 2 + nI sz, σ.P j 3 + 1)).sX (va_cpy σ.X σ.X k b sz)).sX (upd (va_cpy σ.X σ.X k b sz) (b + 2) (va_cpy σ.X σ.X k b sz (b + 2) + 1))).sF 4 (σ.F 4 + 1)).sX (upd (upd (va_cpy σ.X σ.X k b sz) (b + 2) (va_cpy σ.X σ.X k b sz (b + 2) + 1)) k (-nI b))).sC (upd σ.C nc (nI b))).sF 0 (nI (nc + 1))
/-- a copy to OLD -/
def cpO (σ : nSt) (k sz b nc : Nat) : nSt :=
  (((((σ.sP 3 (σ.P 3 0, σ.P 3 1, σ.P 3 2 + nI sz, σ.P 3 3 + 1)).sX (va_cpy σ.X σ.X k b sz)).sF 5 (σ.F 5 + 1)).sX (upd (va_cpy σ.X σ.X k b sz) k (-nI b))).sC (upd σ.C nc (nI b))).sF 0 (nI (nc + 1))
set_option maxHeartbeats 4000000 in
set_option maxRecDepth 100000 in
/-- a copy to a row -/
theorem qNr_copyOfR (l : Launch) (D : va_G) (cI cP : ClassId) (a : Nat → Nat) (σ : nSt) (j k nf nw f us nc : Nat) (hX0 : σ.X k = nI nf) (hX1 : σ.X (k + 1) = nI nw) (hnf : nf ≤ 200) (hnw : nw ≤ 200) (hk : k + (3 + nf + nw) ≤ σ.N) (hN : σ.N < 2 ^ 31) (hPf : σ.P j 0 = nI f) (hPu : σ.P j 2 = nI us) (hb2 : f + us + (3 + nf + nw) ≤ σ.N) (hnc : nc < 512) (hF0 : σ.F 0 = nI nc) (hrw : (σ.F 2 = 0 ∧ j = 2) ∨ (σ.F 2 = 1 ∧ j = 1)) (hage : σ.X (k + 2) < σ.F 1) (hfree : ¬ σ.P j 1 - σ.P j 2 < nI (3 + nf + nw)) : gx_Mi l yNr_copyOf (Cond.code yNr_copyOf cNr_copyOf 6 (some .int) :: gW) (gR 3) D gC (nrT cI cP) (nrW cI cP a) σ [.ref (a 0), .int (nI k)] (fun r u => r = nI (f + us) ∧ u = cpR σ j k (3 + nf + nw) (f + us) nc) := by
  refine gx_Mi.of (cc := cNr_copyOf) (maxL := 6) (ret := (some .int)) (by decide) rfl (Nat.le_of_ble_eq_true rfl) ?_
  intro p e s m args below meth c ls A E hA hK hP hD hS hl
  obtain ⟨hx, hb, hr, hml, hts, hown, hlocks, hnm⟩ := id E
  have hg : ∀ w ∈ gW, w.before args s = true := fun w h => hts w (List.mem_cons_of_mem _ h)
  have hown : s.vm.findClass "NurseryRow" = some m.cls := hown
  have hl : lv_has ls 6 [(0, .ref (a 0)), (1, .int (nI k))] := hl
  rcases hrw with ⟨hrw, rfl⟩ | ⟨hrw, rfl⟩
  · refine lv_aload_n hx hb dNr_copyOf_0 rfl (lv_at hl 0 rfl) ?_
    refine lv_iload_n hx hb dNr_copyOf_1 rfl (lv_at hl 1 rfl) ?_
    refine gx_callp (C := "NurseryRow") (As := [.int (nI k)]) (rest := []) E (qNr_sizeAt l D cI cP a σ k (by omega) hN) (gx_cwV hts l_Nr_150 k_Nr_sizeAt ki_Nr_sizeAt ke_Nr_sizeAt z_Nr n_Nr_sizeAt ⟨by decide, by decide⟩) hK hP hD (va_recv hK hP (ci := 1) (q0 := 0) rfl rfl) hl.1 rfl rfl (Nat.le_of_ble_eq_true rfl) ⟨Nat.zero_le _, Nat.zero_le _⟩ dNr_copyOf_2 ?_
    refine gx_top (z := nI (3 + nf + nw)) (by rw [hX0, hX1, show (3 : Int32) = nI 3 from rfl, nI_add, nI_add]) ?_
    refine lv_istore_n (lv' := [(2, .int (nI (3 + nf + nw))), (0, .ref (a 0)), (1, .int (nI k))]) hx hb dNr_copyOf_5 rfl hl (by decide) rfl (fun ls hl => ?_)
    refine lv_aload_n hx hb dNr_copyOf_6 rfl (lv_at hl 1 rfl) ?_
    refine va_get (C := RNr) (T := TNr) (N := 10) (ci := 1) (v := .ref (a 1)) hx hb hg inNr hown hK hP 0 rfl rfl 0 (by decide) (hg _ f_Nr_11) (fun _ h9 => h9) rfl dNr_copyOf_7 ?_
    refine lv_iconst (v := 2) hx hb dNr_copyOf_10 (by decide) ?_
    refine lv_aload_n hx hb dNr_copyOf_11 rfl (lv_at hl 1 rfl) ?_
    refine va_get (C := RNr) (T := TNr) (N := 10) (ci := 1) (v := .int (σ.F 2)) hx hb hg inNr hown hK hP 0 rfl rfl 6 (by decide) (hg _ f_Nr_58) (fun _ h9 => h9) rfl dNr_copyOf_12 ?_
    refine gx_top (z := 0) hrw ?_
    refine lv_isub hx hb dNr_copyOf_15 ?_
    refine gx_top (z := 2) (by decide) ?_
    refine va_aldq hx hb hK hP 1 1 rfl rfl (by unfold vp_in; decide) dNr_copyOf_16 ?_
    refine gx_stk (st' := [.ref (a (2 + 2))]) rfl ?_
    refine lv_astore_n (lv' := [(3, .ref (a (2 + 2))), (2, .int (nI (3 + nf + nw))), (0, .ref (a 0)), (1, .int (nI k))]) hx hb dNr_copyOf_17 rfl hl (by decide) rfl (fun ls hl => ?_)
    refine lv_aload_n hx hb dNr_copyOf_18 rfl (lv_at hl 2 rfl) ?_
    refine va_get (C := RNr) (T := TNr) (N := 10) (ci := 1) (v := .ref σ.hx) hx hb hg inNr hown hK hP 0 rfl rfl 3 (by decide) (hg _ f_Nr_23) (fun _ h9 => h9) rfl dNr_copyOf_19 ?_
    refine lv_iload_n hx hb dNr_copyOf_22 rfl (lv_at hl 3 rfl) ?_
    refine lv_iconst (v := 2) hx hb dNr_copyOf_23 (by decide) ?_
    refine lv_iadd hx hb dNr_copyOf_24 ?_
    refine gx_top (z := nI (k + 2)) (by rw [show (2 : Int32) = nI 2 from rfl, nI_add]) ?_
    refine va_iald hx hb hK hP 8 0 rfl rfl (vp_in_nI (show k + 2 < σ.N by omega) hN) dNr_copyOf_25 ?_
    refine gx_top (z := σ.X (k + 2)) (congrArg _ (nI_clamp (show k + 2 < 2 ^ 31 by omega))) ?_
    refine lv_aload_n hx hb dNr_copyOf_26 rfl (lv_at hl 2 rfl) ?_
    refine va_get (C := RNr) (T := TNr) (N := 10) (ci := 1) (v := .int (σ.F 1)) hx hb hg inNr hown hK hP 0 rfl rfl 5 (by decide) (hg _ f_Nr_26) (fun _ h9 => h9) rfl dNr_copyOf_27 ?_
    refine lv_icmp_ge (tgt := 45) hx hb dNr_copyOf_30 (by decide) (fun c_30 => ?_) (fun c_30 => ?_)
    · exact absurd c_30 (Int32.not_le.mpr hage)
    · refine lv_aload_n hx hb dNr_copyOf_33 rfl (lv_at hl 0 rfl) ?_
      refine gx_callp (C := "NurseryRow$Part") (As := []) (rest := []) E (nr_liftp (i := 2) (by decide) (qPt_free l D _ (a (2 + 2)) (σ.p 2))) (gx_cwV hts l_Nr_74 k_Pt_free ki_Pt_free ke_Pt_free z_Pt n_Pt_free ⟨by decide, by decide⟩) hK hP hD (va_recv hK hP (ci := 0) (q0 := 4) rfl rfl) hl.1 rfl rfl (Nat.le_of_ble_eq_true rfl) ⟨Nat.zero_le _, Nat.zero_le _⟩ dNr_copyOf_34 ?_
      refine gx_top (z := (σ.P 2 1) - (σ.P 2 2)) rfl ?_
      refine lv_iload_n hx hb dNr_copyOf_37 rfl (lv_at hl 1 rfl) ?_
      refine lv_icmp_lt (tgt := 45) hx hb dNr_copyOf_38 (by decide) (fun c_38 => ?_) (fun c_38 => ?_)
      · exact absurd c_38 hfree
      · refine lv_iconst (v := 1) hx hb dNr_copyOf_41 (by decide) ?_
        refine lv_goto (tgt := 46) hx hb dNr_copyOf_42 (by decide) ?_
        refine lv_istore (lv' := [(4, .int 1), (3, .ref (a (2 + 2))), (2, .int (nI (3 + nf + nw))), (0, .ref (a 0)), (1, .int (nI k))]) hx hb dNr_copyOf_46 hl (by decide) rfl (fun ls hl => ?_)
        refine lv_iload hx hb dNr_copyOf_48 (lv_at hl 0 rfl) ?_
        refine lv_if_eq (tgt := 61) hx hb dNr_copyOf_50 (by decide) (fun c_50 => ?_) (fun c_50 => ?_)
        · exact absurd c_50 (by decide)
        · refine lv_aload_n hx hb dNr_copyOf_53 rfl (lv_at hl 1 rfl) ?_
          refine lv_iload_n hx hb dNr_copyOf_54 rfl (lv_at hl 2 rfl) ?_
          refine gx_calli (C := "NurseryRow$Part") (As := [.int (nI (3 + nf + nw))]) (rest := []) E (nr_lifti (i := 2) (by decide) (qPt_take l D _ (a (2 + 2)) (σ.p 2) (nI (3 + nf + nw)))) (gx_cwV hts l_Nr_77 k_Pt_take ki_Pt_take ke_Pt_take z_Pt n_Pt_take ⟨by decide, by decide⟩) hK hP hD hS hA (va_recv hK hP (ci := 0) (q0 := 4) rfl rfl) hl.1 rfl rfl (Nat.le_of_ble_eq_true rfl) ⟨by decide, by decide⟩ dNr_copyOf_55 (fun r_1 u_2 H locs hq_3 hP hD hS => ?_)
          obtain ⟨v, ⟨hr1, hv⟩, hu⟩ := hq_3
          subst hu; subst hv
          have hr1 : r_1 = (σ.P 2 0) + (σ.P 2 2) := hr1
          subst hr1
          have hP : va_P D gC (nrW cI cP a (σ.sP 2 (σ.P 2 0, σ.P 2 1, (σ.P 2 2) + (nI (3 + nf + nw)), (σ.P 2 3) + 1))) H := hP
          have hD : va_D A (nrW cI cP a (σ.sP 2 (σ.P 2 0, σ.P 2 1, (σ.P 2 2) + (nI (3 + nf + nw)), (σ.P 2 3) + 1))) := hD
          refine gx_top (z := nI (f + us)) (by rw [hPf, hPu, nI_add]) ?_
          refine lv_goto (tgt := 71) hx hb dNr_copyOf_58 (by decide) ?_
          refine lv_istore (lv' := [(5, .int (nI (f + us))), (4, .int 1), (3, .ref (a (2 + 2))), (2, .int (nI (3 + nf + nw))), (0, .ref (a 0)), (1, .int (nI k))]) hx hb dNr_copyOf_71 hl (by decide) rfl (fun ls hl => ?_)
          refine lv_aload_n hx hb dNr_copyOf_73 rfl (lv_at hl 4 rfl) ?_
          refine va_get (C := RNr) (T := TNr) (N := 10) (ci := 1) (v := .ref σ.hx) hx hb hg inNr hown hK hP 0 rfl rfl 3 (by decide) (hg _ f_Nr_23) (fun _ h9 => h9) rfl dNr_copyOf_74 ?_
          refine lv_iload_n hx hb dNr_copyOf_77 rfl (lv_at hl 5 rfl) ?_
          refine lv_aload_n hx hb dNr_copyOf_78 rfl (lv_at hl 4 rfl) ?_
          refine va_get (C := RNr) (T := TNr) (N := 10) (ci := 1) (v := .ref σ.hx) hx hb hg inNr hown hK hP 0 rfl rfl 3 (by decide) (hg _ f_Nr_23) (fun _ h9 => h9) rfl dNr_copyOf_79 ?_
          refine lv_iload hx hb dNr_copyOf_82 (lv_at hl 0 rfl) ?_
          refine lv_iload_n hx hb dNr_copyOf_84 rfl (lv_at hl 3 rfl) ?_
          refine va_copyi hx hb (hml.trans hl.1.symm) hown (hg _ l_Nr_179) (hg _ kx_na) (hg _ kx_st) (hg _ z_System) hK hP hD hS 8 8 0 0 rfl rfl rfl rfl rfl (nI_pos (by omega)) (nI_pos (by omega)) (nI_pos (by omega)) (by rw [nI_clamp (by omega), nI_clamp (by omega)]; exact hk) (by rw [nI_clamp (by omega), nI_clamp (by omega)]; exact hb2) (fun _ _ => rfl) (by decide) (by decide) dNr_copyOf_85 (fun H locs hP hD hS => ?_)
          rw [nI_clamp (show k < 2 ^ 31 by omega), nI_clamp (show f + us < 2 ^ 31 by omega), nI_clamp (show 3 + nf + nw < 2 ^ 31 by omega)] at hP hD
          have hP : va_P D gC (nrW cI cP a ((σ.sP 2 (σ.P 2 0, σ.P 2 1, (σ.P 2 2) + (nI (3 + nf + nw)), (σ.P 2 3) + 1)).sX (va_cpy σ.X σ.X k (f + us) (3 + nf + nw)))) H := hP
          have hD : va_D A (nrW cI cP a ((σ.sP 2 (σ.P 2 0, σ.P 2 1, (σ.P 2 2) + (nI (3 + nf + nw)), (σ.P 2 3) + 1)).sX (va_cpy σ.X σ.X k (f + us) (3 + nf + nw)))) := hD
          refine lv_iload hx hb dNr_copyOf_88 (lv_at hl 1 rfl) ?_
          refine lv_if_eq (tgt := 119) hx hb dNr_copyOf_90 (by decide) (fun c_90 => ?_) (fun c_90 => ?_)
          · exact absurd c_90 (by decide)
          · refine lv_aload_n hx hb dNr_copyOf_93 rfl (lv_at hl 4 rfl) ?_
            refine va_get (C := RNr) (T := TNr) (N := 10) (ci := 1) (v := .ref σ.hx) hx hb hg inNr hown hK hP 0 rfl rfl 3 (by decide) (hg _ f_Nr_23) (fun _ h9 => h9) rfl dNr_copyOf_94 ?_
            refine lv_iload hx hb dNr_copyOf_97 (lv_at hl 0 rfl) ?_
            refine lv_iconst (v := 2) hx hb dNr_copyOf_99 (by decide) ?_
            refine lv_iadd hx hb dNr_copyOf_100 ?_
            refine gx_top (z := nI (f + us + 2)) (by rw [show (2 : Int32) = nI 2 from rfl, nI_add]) ?_
            refine lv_dup2_11 hx hb dNr_copyOf_101 rfl rfl ?_
            refine va_iald hx hb hK hP 8 0 rfl rfl (vp_in_nI (show f + us + 2 < σ.N by omega) hN) dNr_copyOf_102 ?_
            refine gx_top (z := (va_cpy σ.X σ.X k (f + us) (3 + nf + nw)) (f + us + 2)) (congrArg _ (nI_clamp (show f + us + 2 < 2 ^ 31 by omega))) ?_
            refine lv_iconst (v := 1) hx hb dNr_copyOf_103 (by decide) ?_
            refine lv_iadd hx hb dNr_copyOf_104 ?_
            refine va_iast hx hb hK hP hD hS 8 0 rfl rfl (vp_in_nI (show f + us + 2 < σ.N by omega) hN) dNr_copyOf_105 (fun H locs hP hD hS => ?_)
            rw [nI_clamp (show f + us + 2 < 2 ^ 31 by omega)] at hP hD
            have hP : va_P D gC (nrW cI cP a (((σ.sP 2 (σ.P 2 0, σ.P 2 1, (σ.P 2 2) + (nI (3 + nf + nw)), (σ.P 2 3) + 1)).sX (va_cpy σ.X σ.X k (f + us) (3 + nf + nw))).sX (upd (va_cpy σ.X σ.X k (f + us) (3 + nf + nw)) (f + us + 2) (((va_cpy σ.X σ.X k (f + us) (3 + nf + nw)) (f + us + 2)) + 1)))) H := hP
            have hD : va_D A (nrW cI cP a (((σ.sP 2 (σ.P 2 0, σ.P 2 1, (σ.P 2 2) + (nI (3 + nf + nw)), (σ.P 2 3) + 1)).sX (va_cpy σ.X σ.X k (f + us) (3 + nf + nw))).sX (upd (va_cpy σ.X σ.X k (f + us) (3 + nf + nw)) (f + us + 2) (((va_cpy σ.X σ.X k (f + us) (3 + nf + nw)) (f + us + 2)) + 1)))) := hD
            refine lv_aload_n hx hb dNr_copyOf_106 rfl (lv_at hl 4 rfl) ?_
            refine lv_dup hx hb dNr_copyOf_107 rfl ?_
            refine va_get (C := RNr) (T := TNr) (N := 10) (ci := 1) (v := .int (σ.F 4)) hx hb hg inNr hown hK hP 0 rfl rfl 8 (by decide) (hg _ f_Nr_64) (fun _ h9 => h9) rfl dNr_copyOf_108 ?_
            refine lv_iconst (v := 1) hx hb dNr_copyOf_111 (by decide) ?_
            refine lv_iadd hx hb dNr_copyOf_112 ?_
            refine va_put (C := RNr) (T := TNr) (N := 10) (ci := 1) (v := .int ((σ.F 4) + 1)) hx hb hg inNr tyNr tyNr_ok nmNr hown hK hP hD hS 0 rfl rfl 8 (by decide) (hg _ f_Nr_64) (fun _ h9 => h9) rfl (tyNr_ok 8 (by decide)) rfl rfl (Nat.le_of_ble_eq_true rfl) dNr_copyOf_113 (fun H locs hP hD hS => ?_)
            have hP : va_P D gC (nrW cI cP a ((((σ.sP 2 (σ.P 2 0, σ.P 2 1, (σ.P 2 2) + (nI (3 + nf + nw)), (σ.P 2 3) + 1)).sX (va_cpy σ.X σ.X k (f + us) (3 + nf + nw))).sX (upd (va_cpy σ.X σ.X k (f + us) (3 + nf + nw)) (f + us + 2) (((va_cpy σ.X σ.X k (f + us) (3 + nf + nw)) (f + us + 2)) + 1))).sF 4 ((σ.F 4) + 1))) H := hP
            have hD : va_D A (nrW cI cP a ((((σ.sP 2 (σ.P 2 0, σ.P 2 1, (σ.P 2 2) + (nI (3 + nf + nw)), (σ.P 2 3) + 1)).sX (va_cpy σ.X σ.X k (f + us) (3 + nf + nw))).sX (upd (va_cpy σ.X σ.X k (f + us) (3 + nf + nw)) (f + us + 2) (((va_cpy σ.X σ.X k (f + us) (3 + nf + nw)) (f + us + 2)) + 1))).sF 4 ((σ.F 4) + 1))) := hD
            refine lv_goto (tgt := 129) hx hb dNr_copyOf_116 (by decide) ?_
            refine lv_aload_n hx hb dNr_copyOf_129 rfl (lv_at hl 4 rfl) ?_
            refine va_get (C := RNr) (T := TNr) (N := 10) (ci := 1) (v := .ref σ.hx) hx hb hg inNr hown hK hP 0 rfl rfl 3 (by decide) (hg _ f_Nr_23) (fun _ h9 => h9) rfl dNr_copyOf_130 ?_
            refine lv_iload_n hx hb dNr_copyOf_133 rfl (lv_at hl 5 rfl) ?_
            refine lv_iload hx hb dNr_copyOf_134 (lv_at hl 0 rfl) ?_
            refine lv_ineg hx hb dNr_copyOf_136 ?_
            refine va_iast hx hb hK hP hD hS 8 0 rfl rfl (vp_in_nI (show k < σ.N by omega) hN) dNr_copyOf_137 (fun H locs hP hD hS => ?_)
            rw [nI_clamp (show k < 2 ^ 31 by omega)] at hP hD
            have hP : va_P D gC (nrW cI cP a (((((σ.sP 2 (σ.P 2 0, σ.P 2 1, (σ.P 2 2) + (nI (3 + nf + nw)), (σ.P 2 3) + 1)).sX (va_cpy σ.X σ.X k (f + us) (3 + nf + nw))).sX (upd (va_cpy σ.X σ.X k (f + us) (3 + nf + nw)) (f + us + 2) (((va_cpy σ.X σ.X k (f + us) (3 + nf + nw)) (f + us + 2)) + 1))).sF 4 ((σ.F 4) + 1)).sX (upd (upd (va_cpy σ.X σ.X k (f + us) (3 + nf + nw)) (f + us + 2) (((va_cpy σ.X σ.X k (f + us) (3 + nf + nw)) (f + us + 2)) + 1)) k (-(nI (f + us)))))) H := hP
            have hD : va_D A (nrW cI cP a (((((σ.sP 2 (σ.P 2 0, σ.P 2 1, (σ.P 2 2) + (nI (3 + nf + nw)), (σ.P 2 3) + 1)).sX (va_cpy σ.X σ.X k (f + us) (3 + nf + nw))).sX (upd (va_cpy σ.X σ.X k (f + us) (3 + nf + nw)) (f + us + 2) (((va_cpy σ.X σ.X k (f + us) (3 + nf + nw)) (f + us + 2)) + 1))).sF 4 ((σ.F 4) + 1)).sX (upd (upd (va_cpy σ.X σ.X k (f + us) (3 + nf + nw)) (f + us + 2) (((va_cpy σ.X σ.X k (f + us) (3 + nf + nw)) (f + us + 2)) + 1)) k (-(nI (f + us)))))) := hD
            refine lv_aload_n hx hb dNr_copyOf_138 rfl (lv_at hl 4 rfl) ?_
            refine lv_iload hx hb dNr_copyOf_139 (lv_at hl 0 rfl) ?_
            refine gx_callv (C := "NurseryRow") (As := [.int (nI (f + us))]) (rest := []) E (qNr_noteCopy l D cI cP a (((((σ.sP 2 (σ.P 2 0, σ.P 2 1, (σ.P 2 2) + (nI (3 + nf + nw)), (σ.P 2 3) + 1)).sX (va_cpy σ.X σ.X k (f + us) (3 + nf + nw))).sX (upd (va_cpy σ.X σ.X k (f + us) (3 + nf + nw)) (f + us + 2) (((va_cpy σ.X σ.X k (f + us) (3 + nf + nw)) (f + us + 2)) + 1))).sF 4 ((σ.F 4) + 1)).sX (upd (upd (va_cpy σ.X σ.X k (f + us) (3 + nf + nw)) (f + us + 2) (((va_cpy σ.X σ.X k (f + us) (3 + nf + nw)) (f + us + 2)) + 1)) k (-(nI (f + us))))) nc (nI (f + us)) hnc hF0) (gx_cwV hts l_Nr_185 k_Nr_noteCopy ki_Nr_noteCopy ke_Nr_noteCopy z_Nr n_Nr_noteCopy ⟨by decide, by decide⟩) hK hP hD hS hA (va_recv hK hP (ci := 1) (q0 := 0) rfl rfl) hl.1 rfl rfl (Nat.le_of_ble_eq_true rfl) ⟨by decide, by decide⟩ dNr_copyOf_141 (fun u_5 H locs hq_6 hP hD hS => ?_)
            subst hq_6
            have hP : va_P D gC (nrW cI cP a (((((((σ.sP 2 (σ.P 2 0, σ.P 2 1, (σ.P 2 2) + (nI (3 + nf + nw)), (σ.P 2 3) + 1)).sX (va_cpy σ.X σ.X k (f + us) (3 + nf + nw))).sX (upd (va_cpy σ.X σ.X k (f + us) (3 + nf + nw)) (f + us + 2) (((va_cpy σ.X σ.X k (f + us) (3 + nf + nw)) (f + us + 2)) + 1))).sF 4 ((σ.F 4) + 1)).sX (upd (upd (va_cpy σ.X σ.X k (f + us) (3 + nf + nw)) (f + us + 2) (((va_cpy σ.X σ.X k (f + us) (3 + nf + nw)) (f + us + 2)) + 1)) k (-(nI (f + us))))).sC (upd σ.C nc (nI (f + us)))).sF 0 (nI (nc + 1)))) H := hP
            have hD : va_D A (nrW cI cP a (((((((σ.sP 2 (σ.P 2 0, σ.P 2 1, (σ.P 2 2) + (nI (3 + nf + nw)), (σ.P 2 3) + 1)).sX (va_cpy σ.X σ.X k (f + us) (3 + nf + nw))).sX (upd (va_cpy σ.X σ.X k (f + us) (3 + nf + nw)) (f + us + 2) (((va_cpy σ.X σ.X k (f + us) (3 + nf + nw)) (f + us + 2)) + 1))).sF 4 ((σ.F 4) + 1)).sX (upd (upd (va_cpy σ.X σ.X k (f + us) (3 + nf + nw)) (f + us + 2) (((va_cpy σ.X σ.X k (f + us) (3 + nf + nw)) (f + us + 2)) + 1)) k (-(nI (f + us))))).sC (upd σ.C nc (nI (f + us)))).sF 0 (nI (nc + 1)))) := hD
            refine lv_iload hx hb dNr_copyOf_144 (lv_at hl 0 rfl) ?_
            exact gx_iret (u := ((((((σ.sP 2 (σ.P 2 0, σ.P 2 1, (σ.P 2 2) + (nI (3 + nf + nw)), (σ.P 2 3) + 1)).sX (va_cpy σ.X σ.X k (f + us) (3 + nf + nw))).sX (upd (va_cpy σ.X σ.X k (f + us) (3 + nf + nw)) (f + us + 2) (((va_cpy σ.X σ.X k (f + us) (3 + nf + nw)) (f + us + 2)) + 1))).sF 4 ((σ.F 4) + 1)).sX (upd (upd (va_cpy σ.X σ.X k (f + us) (3 + nf + nw)) (f + us + 2) (((va_cpy σ.X σ.X k (f + us) (3 + nf + nw)) (f + us + 2)) + 1)) k (-(nI (f + us))))).sC (upd σ.C nc (nI (f + us)))).sF 0 (nI (nc + 1))) E hK hP hD hS ⟨rfl, rfl⟩ dNr_copyOf_146
  · refine lv_aload_n hx hb dNr_copyOf_0 rfl (lv_at hl 0 rfl) ?_
    refine lv_iload_n hx hb dNr_copyOf_1 rfl (lv_at hl 1 rfl) ?_
    refine gx_callp (C := "NurseryRow") (As := [.int (nI k)]) (rest := []) E (qNr_sizeAt l D cI cP a σ k (by omega) hN) (gx_cwV hts l_Nr_150 k_Nr_sizeAt ki_Nr_sizeAt ke_Nr_sizeAt z_Nr n_Nr_sizeAt ⟨by decide, by decide⟩) hK hP hD (va_recv hK hP (ci := 1) (q0 := 0) rfl rfl) hl.1 rfl rfl (Nat.le_of_ble_eq_true rfl) ⟨Nat.zero_le _, Nat.zero_le _⟩ dNr_copyOf_2 ?_
    refine gx_top (z := nI (3 + nf + nw)) (by rw [hX0, hX1, show (3 : Int32) = nI 3 from rfl, nI_add, nI_add]) ?_
    refine lv_istore_n (lv' := [(2, .int (nI (3 + nf + nw))), (0, .ref (a 0)), (1, .int (nI k))]) hx hb dNr_copyOf_5 rfl hl (by decide) rfl (fun ls hl => ?_)
    refine lv_aload_n hx hb dNr_copyOf_6 rfl (lv_at hl 1 rfl) ?_
    refine va_get (C := RNr) (T := TNr) (N := 10) (ci := 1) (v := .ref (a 1)) hx hb hg inNr hown hK hP 0 rfl rfl 0 (by decide) (hg _ f_Nr_11) (fun _ h9 => h9) rfl dNr_copyOf_7 ?_
    refine lv_iconst (v := 2) hx hb dNr_copyOf_10 (by decide) ?_
    refine lv_aload_n hx hb dNr_copyOf_11 rfl (lv_at hl 1 rfl) ?_
    refine va_get (C := RNr) (T := TNr) (N := 10) (ci := 1) (v := .int (σ.F 2)) hx hb hg inNr hown hK hP 0 rfl rfl 6 (by decide) (hg _ f_Nr_58) (fun _ h9 => h9) rfl dNr_copyOf_12 ?_
    refine gx_top (z := 1) hrw ?_
    refine lv_isub hx hb dNr_copyOf_15 ?_
    refine gx_top (z := 1) (by decide) ?_
    refine va_aldq hx hb hK hP 1 1 rfl rfl (by unfold vp_in; decide) dNr_copyOf_16 ?_
    refine gx_stk (st' := [.ref (a (2 + 1))]) rfl ?_
    refine lv_astore_n (lv' := [(3, .ref (a (2 + 1))), (2, .int (nI (3 + nf + nw))), (0, .ref (a 0)), (1, .int (nI k))]) hx hb dNr_copyOf_17 rfl hl (by decide) rfl (fun ls hl => ?_)
    refine lv_aload_n hx hb dNr_copyOf_18 rfl (lv_at hl 2 rfl) ?_
    refine va_get (C := RNr) (T := TNr) (N := 10) (ci := 1) (v := .ref σ.hx) hx hb hg inNr hown hK hP 0 rfl rfl 3 (by decide) (hg _ f_Nr_23) (fun _ h9 => h9) rfl dNr_copyOf_19 ?_
    refine lv_iload_n hx hb dNr_copyOf_22 rfl (lv_at hl 3 rfl) ?_
    refine lv_iconst (v := 2) hx hb dNr_copyOf_23 (by decide) ?_
    refine lv_iadd hx hb dNr_copyOf_24 ?_
    refine gx_top (z := nI (k + 2)) (by rw [show (2 : Int32) = nI 2 from rfl, nI_add]) ?_
    refine va_iald hx hb hK hP 8 0 rfl rfl (vp_in_nI (show k + 2 < σ.N by omega) hN) dNr_copyOf_25 ?_
    refine gx_top (z := σ.X (k + 2)) (congrArg _ (nI_clamp (show k + 2 < 2 ^ 31 by omega))) ?_
    refine lv_aload_n hx hb dNr_copyOf_26 rfl (lv_at hl 2 rfl) ?_
    refine va_get (C := RNr) (T := TNr) (N := 10) (ci := 1) (v := .int (σ.F 1)) hx hb hg inNr hown hK hP 0 rfl rfl 5 (by decide) (hg _ f_Nr_26) (fun _ h9 => h9) rfl dNr_copyOf_27 ?_
    refine lv_icmp_ge (tgt := 45) hx hb dNr_copyOf_30 (by decide) (fun c_30 => ?_) (fun c_30 => ?_)
    · exact absurd c_30 (Int32.not_le.mpr hage)
    · refine lv_aload_n hx hb dNr_copyOf_33 rfl (lv_at hl 0 rfl) ?_
      refine gx_callp (C := "NurseryRow$Part") (As := []) (rest := []) E (nr_liftp (i := 1) (by decide) (qPt_free l D _ (a (2 + 1)) (σ.p 1))) (gx_cwV hts l_Nr_74 k_Pt_free ki_Pt_free ke_Pt_free z_Pt n_Pt_free ⟨by decide, by decide⟩) hK hP hD (va_recv hK hP (ci := 0) (q0 := 3) rfl rfl) hl.1 rfl rfl (Nat.le_of_ble_eq_true rfl) ⟨Nat.zero_le _, Nat.zero_le _⟩ dNr_copyOf_34 ?_
      refine gx_top (z := (σ.P 1 1) - (σ.P 1 2)) rfl ?_
      refine lv_iload_n hx hb dNr_copyOf_37 rfl (lv_at hl 1 rfl) ?_
      refine lv_icmp_lt (tgt := 45) hx hb dNr_copyOf_38 (by decide) (fun c_38 => ?_) (fun c_38 => ?_)
      · exact absurd c_38 hfree
      · refine lv_iconst (v := 1) hx hb dNr_copyOf_41 (by decide) ?_
        refine lv_goto (tgt := 46) hx hb dNr_copyOf_42 (by decide) ?_
        refine lv_istore (lv' := [(4, .int 1), (3, .ref (a (2 + 1))), (2, .int (nI (3 + nf + nw))), (0, .ref (a 0)), (1, .int (nI k))]) hx hb dNr_copyOf_46 hl (by decide) rfl (fun ls hl => ?_)
        refine lv_iload hx hb dNr_copyOf_48 (lv_at hl 0 rfl) ?_
        refine lv_if_eq (tgt := 61) hx hb dNr_copyOf_50 (by decide) (fun c_50 => ?_) (fun c_50 => ?_)
        · exact absurd c_50 (by decide)
        · refine lv_aload_n hx hb dNr_copyOf_53 rfl (lv_at hl 1 rfl) ?_
          refine lv_iload_n hx hb dNr_copyOf_54 rfl (lv_at hl 2 rfl) ?_
          refine gx_calli (C := "NurseryRow$Part") (As := [.int (nI (3 + nf + nw))]) (rest := []) E (nr_lifti (i := 1) (by decide) (qPt_take l D _ (a (2 + 1)) (σ.p 1) (nI (3 + nf + nw)))) (gx_cwV hts l_Nr_77 k_Pt_take ki_Pt_take ke_Pt_take z_Pt n_Pt_take ⟨by decide, by decide⟩) hK hP hD hS hA (va_recv hK hP (ci := 0) (q0 := 3) rfl rfl) hl.1 rfl rfl (Nat.le_of_ble_eq_true rfl) ⟨by decide, by decide⟩ dNr_copyOf_55 (fun r_7 u_8 H locs hq_9 hP hD hS => ?_)
          obtain ⟨v, ⟨hr1, hv⟩, hu⟩ := hq_9
          subst hu; subst hv
          have hr1 : r_7 = (σ.P 1 0) + (σ.P 1 2) := hr1
          subst hr1
          have hP : va_P D gC (nrW cI cP a (σ.sP 1 (σ.P 1 0, σ.P 1 1, (σ.P 1 2) + (nI (3 + nf + nw)), (σ.P 1 3) + 1))) H := hP
          have hD : va_D A (nrW cI cP a (σ.sP 1 (σ.P 1 0, σ.P 1 1, (σ.P 1 2) + (nI (3 + nf + nw)), (σ.P 1 3) + 1))) := hD
          refine gx_top (z := nI (f + us)) (by rw [hPf, hPu, nI_add]) ?_
          refine lv_goto (tgt := 71) hx hb dNr_copyOf_58 (by decide) ?_
          refine lv_istore (lv' := [(5, .int (nI (f + us))), (4, .int 1), (3, .ref (a (2 + 1))), (2, .int (nI (3 + nf + nw))), (0, .ref (a 0)), (1, .int (nI k))]) hx hb dNr_copyOf_71 hl (by decide) rfl (fun ls hl => ?_)
          refine lv_aload_n hx hb dNr_copyOf_73 rfl (lv_at hl 4 rfl) ?_
          refine va_get (C := RNr) (T := TNr) (N := 10) (ci := 1) (v := .ref σ.hx) hx hb hg inNr hown hK hP 0 rfl rfl 3 (by decide) (hg _ f_Nr_23) (fun _ h9 => h9) rfl dNr_copyOf_74 ?_
          refine lv_iload_n hx hb dNr_copyOf_77 rfl (lv_at hl 5 rfl) ?_
          refine lv_aload_n hx hb dNr_copyOf_78 rfl (lv_at hl 4 rfl) ?_
          refine va_get (C := RNr) (T := TNr) (N := 10) (ci := 1) (v := .ref σ.hx) hx hb hg inNr hown hK hP 0 rfl rfl 3 (by decide) (hg _ f_Nr_23) (fun _ h9 => h9) rfl dNr_copyOf_79 ?_
          refine lv_iload hx hb dNr_copyOf_82 (lv_at hl 0 rfl) ?_
          refine lv_iload_n hx hb dNr_copyOf_84 rfl (lv_at hl 3 rfl) ?_
          refine va_copyi hx hb (hml.trans hl.1.symm) hown (hg _ l_Nr_179) (hg _ kx_na) (hg _ kx_st) (hg _ z_System) hK hP hD hS 8 8 0 0 rfl rfl rfl rfl rfl (nI_pos (by omega)) (nI_pos (by omega)) (nI_pos (by omega)) (by rw [nI_clamp (by omega), nI_clamp (by omega)]; exact hk) (by rw [nI_clamp (by omega), nI_clamp (by omega)]; exact hb2) (fun _ _ => rfl) (by decide) (by decide) dNr_copyOf_85 (fun H locs hP hD hS => ?_)
          rw [nI_clamp (show k < 2 ^ 31 by omega), nI_clamp (show f + us < 2 ^ 31 by omega), nI_clamp (show 3 + nf + nw < 2 ^ 31 by omega)] at hP hD
          have hP : va_P D gC (nrW cI cP a ((σ.sP 1 (σ.P 1 0, σ.P 1 1, (σ.P 1 2) + (nI (3 + nf + nw)), (σ.P 1 3) + 1)).sX (va_cpy σ.X σ.X k (f + us) (3 + nf + nw)))) H := hP
          have hD : va_D A (nrW cI cP a ((σ.sP 1 (σ.P 1 0, σ.P 1 1, (σ.P 1 2) + (nI (3 + nf + nw)), (σ.P 1 3) + 1)).sX (va_cpy σ.X σ.X k (f + us) (3 + nf + nw)))) := hD
          refine lv_iload hx hb dNr_copyOf_88 (lv_at hl 1 rfl) ?_
          refine lv_if_eq (tgt := 119) hx hb dNr_copyOf_90 (by decide) (fun c_90 => ?_) (fun c_90 => ?_)
          · exact absurd c_90 (by decide)
          · refine lv_aload_n hx hb dNr_copyOf_93 rfl (lv_at hl 4 rfl) ?_
            refine va_get (C := RNr) (T := TNr) (N := 10) (ci := 1) (v := .ref σ.hx) hx hb hg inNr hown hK hP 0 rfl rfl 3 (by decide) (hg _ f_Nr_23) (fun _ h9 => h9) rfl dNr_copyOf_94 ?_
            refine lv_iload hx hb dNr_copyOf_97 (lv_at hl 0 rfl) ?_
            refine lv_iconst (v := 2) hx hb dNr_copyOf_99 (by decide) ?_
            refine lv_iadd hx hb dNr_copyOf_100 ?_
            refine gx_top (z := nI (f + us + 2)) (by rw [show (2 : Int32) = nI 2 from rfl, nI_add]) ?_
            refine lv_dup2_11 hx hb dNr_copyOf_101 rfl rfl ?_
            refine va_iald hx hb hK hP 8 0 rfl rfl (vp_in_nI (show f + us + 2 < σ.N by omega) hN) dNr_copyOf_102 ?_
            refine gx_top (z := (va_cpy σ.X σ.X k (f + us) (3 + nf + nw)) (f + us + 2)) (congrArg _ (nI_clamp (show f + us + 2 < 2 ^ 31 by omega))) ?_
            refine lv_iconst (v := 1) hx hb dNr_copyOf_103 (by decide) ?_
            refine lv_iadd hx hb dNr_copyOf_104 ?_
            refine va_iast hx hb hK hP hD hS 8 0 rfl rfl (vp_in_nI (show f + us + 2 < σ.N by omega) hN) dNr_copyOf_105 (fun H locs hP hD hS => ?_)
            rw [nI_clamp (show f + us + 2 < 2 ^ 31 by omega)] at hP hD
            have hP : va_P D gC (nrW cI cP a (((σ.sP 1 (σ.P 1 0, σ.P 1 1, (σ.P 1 2) + (nI (3 + nf + nw)), (σ.P 1 3) + 1)).sX (va_cpy σ.X σ.X k (f + us) (3 + nf + nw))).sX (upd (va_cpy σ.X σ.X k (f + us) (3 + nf + nw)) (f + us + 2) (((va_cpy σ.X σ.X k (f + us) (3 + nf + nw)) (f + us + 2)) + 1)))) H := hP
            have hD : va_D A (nrW cI cP a (((σ.sP 1 (σ.P 1 0, σ.P 1 1, (σ.P 1 2) + (nI (3 + nf + nw)), (σ.P 1 3) + 1)).sX (va_cpy σ.X σ.X k (f + us) (3 + nf + nw))).sX (upd (va_cpy σ.X σ.X k (f + us) (3 + nf + nw)) (f + us + 2) (((va_cpy σ.X σ.X k (f + us) (3 + nf + nw)) (f + us + 2)) + 1)))) := hD
            refine lv_aload_n hx hb dNr_copyOf_106 rfl (lv_at hl 4 rfl) ?_
            refine lv_dup hx hb dNr_copyOf_107 rfl ?_
            refine va_get (C := RNr) (T := TNr) (N := 10) (ci := 1) (v := .int (σ.F 4)) hx hb hg inNr hown hK hP 0 rfl rfl 8 (by decide) (hg _ f_Nr_64) (fun _ h9 => h9) rfl dNr_copyOf_108 ?_
            refine lv_iconst (v := 1) hx hb dNr_copyOf_111 (by decide) ?_
            refine lv_iadd hx hb dNr_copyOf_112 ?_
            refine va_put (C := RNr) (T := TNr) (N := 10) (ci := 1) (v := .int ((σ.F 4) + 1)) hx hb hg inNr tyNr tyNr_ok nmNr hown hK hP hD hS 0 rfl rfl 8 (by decide) (hg _ f_Nr_64) (fun _ h9 => h9) rfl (tyNr_ok 8 (by decide)) rfl rfl (Nat.le_of_ble_eq_true rfl) dNr_copyOf_113 (fun H locs hP hD hS => ?_)
            have hP : va_P D gC (nrW cI cP a ((((σ.sP 1 (σ.P 1 0, σ.P 1 1, (σ.P 1 2) + (nI (3 + nf + nw)), (σ.P 1 3) + 1)).sX (va_cpy σ.X σ.X k (f + us) (3 + nf + nw))).sX (upd (va_cpy σ.X σ.X k (f + us) (3 + nf + nw)) (f + us + 2) (((va_cpy σ.X σ.X k (f + us) (3 + nf + nw)) (f + us + 2)) + 1))).sF 4 ((σ.F 4) + 1))) H := hP
            have hD : va_D A (nrW cI cP a ((((σ.sP 1 (σ.P 1 0, σ.P 1 1, (σ.P 1 2) + (nI (3 + nf + nw)), (σ.P 1 3) + 1)).sX (va_cpy σ.X σ.X k (f + us) (3 + nf + nw))).sX (upd (va_cpy σ.X σ.X k (f + us) (3 + nf + nw)) (f + us + 2) (((va_cpy σ.X σ.X k (f + us) (3 + nf + nw)) (f + us + 2)) + 1))).sF 4 ((σ.F 4) + 1))) := hD
            refine lv_goto (tgt := 129) hx hb dNr_copyOf_116 (by decide) ?_
            refine lv_aload_n hx hb dNr_copyOf_129 rfl (lv_at hl 4 rfl) ?_
            refine va_get (C := RNr) (T := TNr) (N := 10) (ci := 1) (v := .ref σ.hx) hx hb hg inNr hown hK hP 0 rfl rfl 3 (by decide) (hg _ f_Nr_23) (fun _ h9 => h9) rfl dNr_copyOf_130 ?_
            refine lv_iload_n hx hb dNr_copyOf_133 rfl (lv_at hl 5 rfl) ?_
            refine lv_iload hx hb dNr_copyOf_134 (lv_at hl 0 rfl) ?_
            refine lv_ineg hx hb dNr_copyOf_136 ?_
            refine va_iast hx hb hK hP hD hS 8 0 rfl rfl (vp_in_nI (show k < σ.N by omega) hN) dNr_copyOf_137 (fun H locs hP hD hS => ?_)
            rw [nI_clamp (show k < 2 ^ 31 by omega)] at hP hD
            have hP : va_P D gC (nrW cI cP a (((((σ.sP 1 (σ.P 1 0, σ.P 1 1, (σ.P 1 2) + (nI (3 + nf + nw)), (σ.P 1 3) + 1)).sX (va_cpy σ.X σ.X k (f + us) (3 + nf + nw))).sX (upd (va_cpy σ.X σ.X k (f + us) (3 + nf + nw)) (f + us + 2) (((va_cpy σ.X σ.X k (f + us) (3 + nf + nw)) (f + us + 2)) + 1))).sF 4 ((σ.F 4) + 1)).sX (upd (upd (va_cpy σ.X σ.X k (f + us) (3 + nf + nw)) (f + us + 2) (((va_cpy σ.X σ.X k (f + us) (3 + nf + nw)) (f + us + 2)) + 1)) k (-(nI (f + us)))))) H := hP
            have hD : va_D A (nrW cI cP a (((((σ.sP 1 (σ.P 1 0, σ.P 1 1, (σ.P 1 2) + (nI (3 + nf + nw)), (σ.P 1 3) + 1)).sX (va_cpy σ.X σ.X k (f + us) (3 + nf + nw))).sX (upd (va_cpy σ.X σ.X k (f + us) (3 + nf + nw)) (f + us + 2) (((va_cpy σ.X σ.X k (f + us) (3 + nf + nw)) (f + us + 2)) + 1))).sF 4 ((σ.F 4) + 1)).sX (upd (upd (va_cpy σ.X σ.X k (f + us) (3 + nf + nw)) (f + us + 2) (((va_cpy σ.X σ.X k (f + us) (3 + nf + nw)) (f + us + 2)) + 1)) k (-(nI (f + us)))))) := hD
            refine lv_aload_n hx hb dNr_copyOf_138 rfl (lv_at hl 4 rfl) ?_
            refine lv_iload hx hb dNr_copyOf_139 (lv_at hl 0 rfl) ?_
            refine gx_callv (C := "NurseryRow") (As := [.int (nI (f + us))]) (rest := []) E (qNr_noteCopy l D cI cP a (((((σ.sP 1 (σ.P 1 0, σ.P 1 1, (σ.P 1 2) + (nI (3 + nf + nw)), (σ.P 1 3) + 1)).sX (va_cpy σ.X σ.X k (f + us) (3 + nf + nw))).sX (upd (va_cpy σ.X σ.X k (f + us) (3 + nf + nw)) (f + us + 2) (((va_cpy σ.X σ.X k (f + us) (3 + nf + nw)) (f + us + 2)) + 1))).sF 4 ((σ.F 4) + 1)).sX (upd (upd (va_cpy σ.X σ.X k (f + us) (3 + nf + nw)) (f + us + 2) (((va_cpy σ.X σ.X k (f + us) (3 + nf + nw)) (f + us + 2)) + 1)) k (-(nI (f + us))))) nc (nI (f + us)) hnc hF0) (gx_cwV hts l_Nr_185 k_Nr_noteCopy ki_Nr_noteCopy ke_Nr_noteCopy z_Nr n_Nr_noteCopy ⟨by decide, by decide⟩) hK hP hD hS hA (va_recv hK hP (ci := 1) (q0 := 0) rfl rfl) hl.1 rfl rfl (Nat.le_of_ble_eq_true rfl) ⟨by decide, by decide⟩ dNr_copyOf_141 (fun u_11 H locs hq_12 hP hD hS => ?_)
            subst hq_12
            have hP : va_P D gC (nrW cI cP a (((((((σ.sP 1 (σ.P 1 0, σ.P 1 1, (σ.P 1 2) + (nI (3 + nf + nw)), (σ.P 1 3) + 1)).sX (va_cpy σ.X σ.X k (f + us) (3 + nf + nw))).sX (upd (va_cpy σ.X σ.X k (f + us) (3 + nf + nw)) (f + us + 2) (((va_cpy σ.X σ.X k (f + us) (3 + nf + nw)) (f + us + 2)) + 1))).sF 4 ((σ.F 4) + 1)).sX (upd (upd (va_cpy σ.X σ.X k (f + us) (3 + nf + nw)) (f + us + 2) (((va_cpy σ.X σ.X k (f + us) (3 + nf + nw)) (f + us + 2)) + 1)) k (-(nI (f + us))))).sC (upd σ.C nc (nI (f + us)))).sF 0 (nI (nc + 1)))) H := hP
            have hD : va_D A (nrW cI cP a (((((((σ.sP 1 (σ.P 1 0, σ.P 1 1, (σ.P 1 2) + (nI (3 + nf + nw)), (σ.P 1 3) + 1)).sX (va_cpy σ.X σ.X k (f + us) (3 + nf + nw))).sX (upd (va_cpy σ.X σ.X k (f + us) (3 + nf + nw)) (f + us + 2) (((va_cpy σ.X σ.X k (f + us) (3 + nf + nw)) (f + us + 2)) + 1))).sF 4 ((σ.F 4) + 1)).sX (upd (upd (va_cpy σ.X σ.X k (f + us) (3 + nf + nw)) (f + us + 2) (((va_cpy σ.X σ.X k (f + us) (3 + nf + nw)) (f + us + 2)) + 1)) k (-(nI (f + us))))).sC (upd σ.C nc (nI (f + us)))).sF 0 (nI (nc + 1)))) := hD
            refine lv_iload hx hb dNr_copyOf_144 (lv_at hl 0 rfl) ?_
            exact gx_iret (u := ((((((σ.sP 1 (σ.P 1 0, σ.P 1 1, (σ.P 1 2) + (nI (3 + nf + nw)), (σ.P 1 3) + 1)).sX (va_cpy σ.X σ.X k (f + us) (3 + nf + nw))).sX (upd (va_cpy σ.X σ.X k (f + us) (3 + nf + nw)) (f + us + 2) (((va_cpy σ.X σ.X k (f + us) (3 + nf + nw)) (f + us + 2)) + 1))).sF 4 ((σ.F 4) + 1)).sX (upd (upd (va_cpy σ.X σ.X k (f + us) (3 + nf + nw)) (f + us + 2) (((va_cpy σ.X σ.X k (f + us) (3 + nf + nw)) (f + us + 2)) + 1)) k (-(nI (f + us))))).sC (upd σ.C nc (nI (f + us)))).sF 0 (nI (nc + 1))) E hK hP hD hS ⟨rfl, rfl⟩ dNr_copyOf_146
set_option maxHeartbeats 4000000 in
set_option maxRecDepth 100000 in
/-- a copy to OLD -/
theorem qNr_copyOfO (l : Launch) (D : va_G) (cI cP : ClassId) (a : Nat → Nat) (σ : nSt) (j k nf nw f us nc : Nat) (hX0 : σ.X k = nI nf) (hX1 : σ.X (k + 1) = nI nw) (hnf : nf ≤ 200) (hnw : nw ≤ 200) (hk : k + (3 + nf + nw) ≤ σ.N) (hN : σ.N < 2 ^ 31) (hPf : σ.P 3 0 = nI f) (hPu : σ.P 3 2 = nI us) (hb2 : f + us + (3 + nf + nw) ≤ σ.N) (hnc : nc < 512) (hF0 : σ.F 0 = nI nc) (hrw : (σ.F 2 = 0 ∧ j = 2) ∨ (σ.F 2 = 1 ∧ j = 1)) (hst : ¬ σ.X (k + 2) < σ.F 1 ∨ σ.P j 1 - σ.P j 2 < nI (3 + nf + nw)) : gx_Mi l yNr_copyOf (Cond.code yNr_copyOf cNr_copyOf 6 (some .int) :: gW) (gR 3) D gC (nrT cI cP) (nrW cI cP a) σ [.ref (a 0), .int (nI k)] (fun r u => r = nI (f + us) ∧ u = cpO σ k (3 + nf + nw) (f + us) nc) := by
  refine gx_Mi.of (cc := cNr_copyOf) (maxL := 6) (ret := (some .int)) (by decide) rfl (Nat.le_of_ble_eq_true rfl) ?_
  intro p e s m args below meth c ls A E hA hK hP hD hS hl
  obtain ⟨hx, hb, hr, hml, hts, hown, hlocks, hnm⟩ := id E
  have hg : ∀ w ∈ gW, w.before args s = true := fun w h => hts w (List.mem_cons_of_mem _ h)
  have hown : s.vm.findClass "NurseryRow" = some m.cls := hown
  have hl : lv_has ls 6 [(0, .ref (a 0)), (1, .int (nI k))] := hl
  rcases hrw with ⟨hrw, rfl⟩ | ⟨hrw, rfl⟩
  · refine lv_aload_n hx hb dNr_copyOf_0 rfl (lv_at hl 0 rfl) ?_
    refine lv_iload_n hx hb dNr_copyOf_1 rfl (lv_at hl 1 rfl) ?_
    refine gx_callp (C := "NurseryRow") (As := [.int (nI k)]) (rest := []) E (qNr_sizeAt l D cI cP a σ k (by omega) hN) (gx_cwV hts l_Nr_150 k_Nr_sizeAt ki_Nr_sizeAt ke_Nr_sizeAt z_Nr n_Nr_sizeAt ⟨by decide, by decide⟩) hK hP hD (va_recv hK hP (ci := 1) (q0 := 0) rfl rfl) hl.1 rfl rfl (Nat.le_of_ble_eq_true rfl) ⟨Nat.zero_le _, Nat.zero_le _⟩ dNr_copyOf_2 ?_
    refine gx_top (z := nI (3 + nf + nw)) (by rw [hX0, hX1, show (3 : Int32) = nI 3 from rfl, nI_add, nI_add]) ?_
    refine lv_istore_n (lv' := [(2, .int (nI (3 + nf + nw))), (0, .ref (a 0)), (1, .int (nI k))]) hx hb dNr_copyOf_5 rfl hl (by decide) rfl (fun ls hl => ?_)
    refine lv_aload_n hx hb dNr_copyOf_6 rfl (lv_at hl 1 rfl) ?_
    refine va_get (C := RNr) (T := TNr) (N := 10) (ci := 1) (v := .ref (a 1)) hx hb hg inNr hown hK hP 0 rfl rfl 0 (by decide) (hg _ f_Nr_11) (fun _ h9 => h9) rfl dNr_copyOf_7 ?_
    refine lv_iconst (v := 2) hx hb dNr_copyOf_10 (by decide) ?_
    refine lv_aload_n hx hb dNr_copyOf_11 rfl (lv_at hl 1 rfl) ?_
    refine va_get (C := RNr) (T := TNr) (N := 10) (ci := 1) (v := .int (σ.F 2)) hx hb hg inNr hown hK hP 0 rfl rfl 6 (by decide) (hg _ f_Nr_58) (fun _ h9 => h9) rfl dNr_copyOf_12 ?_
    refine gx_top (z := 0) hrw ?_
    refine lv_isub hx hb dNr_copyOf_15 ?_
    refine gx_top (z := 2) (by decide) ?_
    refine va_aldq hx hb hK hP 1 1 rfl rfl (by unfold vp_in; decide) dNr_copyOf_16 ?_
    refine gx_stk (st' := [.ref (a (2 + 2))]) rfl ?_
    refine lv_astore_n (lv' := [(3, .ref (a (2 + 2))), (2, .int (nI (3 + nf + nw))), (0, .ref (a 0)), (1, .int (nI k))]) hx hb dNr_copyOf_17 rfl hl (by decide) rfl (fun ls hl => ?_)
    refine lv_aload_n hx hb dNr_copyOf_18 rfl (lv_at hl 2 rfl) ?_
    refine va_get (C := RNr) (T := TNr) (N := 10) (ci := 1) (v := .ref σ.hx) hx hb hg inNr hown hK hP 0 rfl rfl 3 (by decide) (hg _ f_Nr_23) (fun _ h9 => h9) rfl dNr_copyOf_19 ?_
    refine lv_iload_n hx hb dNr_copyOf_22 rfl (lv_at hl 3 rfl) ?_
    refine lv_iconst (v := 2) hx hb dNr_copyOf_23 (by decide) ?_
    refine lv_iadd hx hb dNr_copyOf_24 ?_
    refine gx_top (z := nI (k + 2)) (by rw [show (2 : Int32) = nI 2 from rfl, nI_add]) ?_
    refine va_iald hx hb hK hP 8 0 rfl rfl (vp_in_nI (show k + 2 < σ.N by omega) hN) dNr_copyOf_25 ?_
    refine gx_top (z := σ.X (k + 2)) (congrArg _ (nI_clamp (show k + 2 < 2 ^ 31 by omega))) ?_
    refine lv_aload_n hx hb dNr_copyOf_26 rfl (lv_at hl 2 rfl) ?_
    refine va_get (C := RNr) (T := TNr) (N := 10) (ci := 1) (v := .int (σ.F 1)) hx hb hg inNr hown hK hP 0 rfl rfl 5 (by decide) (hg _ f_Nr_26) (fun _ h9 => h9) rfl dNr_copyOf_27 ?_
    refine lv_icmp_ge (tgt := 45) hx hb dNr_copyOf_30 (by decide) (fun c_30 => ?_) (fun c_30 => ?_)
    · refine lv_iconst (v := 0) hx hb dNr_copyOf_45 (by decide) ?_
      refine lv_istore (lv' := [(4, .int 0), (3, .ref (a (2 + 2))), (2, .int (nI (3 + nf + nw))), (0, .ref (a 0)), (1, .int (nI k))]) hx hb dNr_copyOf_46 hl (by decide) rfl (fun ls hl => ?_)
      refine lv_iload hx hb dNr_copyOf_48 (lv_at hl 0 rfl) ?_
      refine lv_if_eq (tgt := 61) hx hb dNr_copyOf_50 (by decide) (fun c_50 => ?_) (fun c_50 => ?_)
      · refine lv_aload_n hx hb dNr_copyOf_61 rfl (lv_at hl 3 rfl) ?_
        refine va_get (C := RNr) (T := TNr) (N := 10) (ci := 1) (v := .ref (a 1)) hx hb hg inNr hown hK hP 0 rfl rfl 0 (by decide) (hg _ f_Nr_11) (fun _ h9 => h9) rfl dNr_copyOf_62 ?_
        refine lv_iconst (v := 3) hx hb dNr_copyOf_65 (by decide) ?_
        refine va_aldq hx hb hK hP 1 1 rfl rfl (by unfold vp_in; decide) dNr_copyOf_66 ?_
        refine gx_stk (st' := [.ref (a (2 + 3))]) rfl ?_
        refine lv_iload_n hx hb dNr_copyOf_67 rfl (lv_at hl 2 rfl) ?_
        refine gx_calli (C := "NurseryRow$Part") (As := [.int (nI (3 + nf + nw))]) (rest := []) E (nr_lifti (i := 3) (by decide) (qPt_take l D _ (a (2 + 3)) (σ.p 3) (nI (3 + nf + nw)))) (gx_cwV hts l_Nr_77 k_Pt_take ki_Pt_take ke_Pt_take z_Pt n_Pt_take ⟨by decide, by decide⟩) hK hP hD hS hA (va_recv hK hP (ci := 0) (q0 := 5) rfl rfl) hl.1 rfl rfl (Nat.le_of_ble_eq_true rfl) ⟨by decide, by decide⟩ dNr_copyOf_68 (fun r_1 u_2 H locs hq_3 hP hD hS => ?_)
        obtain ⟨v, ⟨hr1, hv⟩, hu⟩ := hq_3
        subst hu; subst hv
        have hr1 : r_1 = (σ.P 3 0) + (σ.P 3 2) := hr1
        subst hr1
        have hP : va_P D gC (nrW cI cP a (σ.sP 3 (σ.P 3 0, σ.P 3 1, (σ.P 3 2) + (nI (3 + nf + nw)), (σ.P 3 3) + 1))) H := hP
        have hD : va_D A (nrW cI cP a (σ.sP 3 (σ.P 3 0, σ.P 3 1, (σ.P 3 2) + (nI (3 + nf + nw)), (σ.P 3 3) + 1))) := hD
        refine gx_top (z := nI (f + us)) (by rw [hPf, hPu, nI_add]) ?_
        refine lv_istore (lv' := [(5, .int (nI (f + us))), (4, .int 0), (3, .ref (a (2 + 2))), (2, .int (nI (3 + nf + nw))), (0, .ref (a 0)), (1, .int (nI k))]) hx hb dNr_copyOf_71 hl (by decide) rfl (fun ls hl => ?_)
        refine lv_aload_n hx hb dNr_copyOf_73 rfl (lv_at hl 4 rfl) ?_
        refine va_get (C := RNr) (T := TNr) (N := 10) (ci := 1) (v := .ref σ.hx) hx hb hg inNr hown hK hP 0 rfl rfl 3 (by decide) (hg _ f_Nr_23) (fun _ h9 => h9) rfl dNr_copyOf_74 ?_
        refine lv_iload_n hx hb dNr_copyOf_77 rfl (lv_at hl 5 rfl) ?_
        refine lv_aload_n hx hb dNr_copyOf_78 rfl (lv_at hl 4 rfl) ?_
        refine va_get (C := RNr) (T := TNr) (N := 10) (ci := 1) (v := .ref σ.hx) hx hb hg inNr hown hK hP 0 rfl rfl 3 (by decide) (hg _ f_Nr_23) (fun _ h9 => h9) rfl dNr_copyOf_79 ?_
        refine lv_iload hx hb dNr_copyOf_82 (lv_at hl 0 rfl) ?_
        refine lv_iload_n hx hb dNr_copyOf_84 rfl (lv_at hl 3 rfl) ?_
        refine va_copyi hx hb (hml.trans hl.1.symm) hown (hg _ l_Nr_179) (hg _ kx_na) (hg _ kx_st) (hg _ z_System) hK hP hD hS 8 8 0 0 rfl rfl rfl rfl rfl (nI_pos (by omega)) (nI_pos (by omega)) (nI_pos (by omega)) (by rw [nI_clamp (by omega), nI_clamp (by omega)]; exact hk) (by rw [nI_clamp (by omega), nI_clamp (by omega)]; exact hb2) (fun _ _ => rfl) (by decide) (by decide) dNr_copyOf_85 (fun H locs hP hD hS => ?_)
        rw [nI_clamp (show k < 2 ^ 31 by omega), nI_clamp (show f + us < 2 ^ 31 by omega), nI_clamp (show 3 + nf + nw < 2 ^ 31 by omega)] at hP hD
        have hP : va_P D gC (nrW cI cP a ((σ.sP 3 (σ.P 3 0, σ.P 3 1, (σ.P 3 2) + (nI (3 + nf + nw)), (σ.P 3 3) + 1)).sX (va_cpy σ.X σ.X k (f + us) (3 + nf + nw)))) H := hP
        have hD : va_D A (nrW cI cP a ((σ.sP 3 (σ.P 3 0, σ.P 3 1, (σ.P 3 2) + (nI (3 + nf + nw)), (σ.P 3 3) + 1)).sX (va_cpy σ.X σ.X k (f + us) (3 + nf + nw)))) := hD
        refine lv_iload hx hb dNr_copyOf_88 (lv_at hl 1 rfl) ?_
        refine lv_if_eq (tgt := 119) hx hb dNr_copyOf_90 (by decide) (fun c_90 => ?_) (fun c_90 => ?_)
        · refine lv_aload_n hx hb dNr_copyOf_119 rfl (lv_at hl 4 rfl) ?_
          refine lv_dup hx hb dNr_copyOf_120 rfl ?_
          refine va_get (C := RNr) (T := TNr) (N := 10) (ci := 1) (v := .int (σ.F 5)) hx hb hg inNr hown hK hP 0 rfl rfl 9 (by decide) (hg _ f_Nr_67) (fun _ h9 => h9) rfl dNr_copyOf_121 ?_
          refine lv_iconst (v := 1) hx hb dNr_copyOf_124 (by decide) ?_
          refine lv_iadd hx hb dNr_copyOf_125 ?_
          refine va_put (C := RNr) (T := TNr) (N := 10) (ci := 1) (v := .int ((σ.F 5) + 1)) hx hb hg inNr tyNr tyNr_ok nmNr hown hK hP hD hS 0 rfl rfl 9 (by decide) (hg _ f_Nr_67) (fun _ h9 => h9) rfl (tyNr_ok 9 (by decide)) rfl rfl (Nat.le_of_ble_eq_true rfl) dNr_copyOf_126 (fun H locs hP hD hS => ?_)
          have hP : va_P D gC (nrW cI cP a (((σ.sP 3 (σ.P 3 0, σ.P 3 1, (σ.P 3 2) + (nI (3 + nf + nw)), (σ.P 3 3) + 1)).sX (va_cpy σ.X σ.X k (f + us) (3 + nf + nw))).sF 5 ((σ.F 5) + 1))) H := hP
          have hD : va_D A (nrW cI cP a (((σ.sP 3 (σ.P 3 0, σ.P 3 1, (σ.P 3 2) + (nI (3 + nf + nw)), (σ.P 3 3) + 1)).sX (va_cpy σ.X σ.X k (f + us) (3 + nf + nw))).sF 5 ((σ.F 5) + 1))) := hD
          refine lv_aload_n hx hb dNr_copyOf_129 rfl (lv_at hl 4 rfl) ?_
          refine va_get (C := RNr) (T := TNr) (N := 10) (ci := 1) (v := .ref σ.hx) hx hb hg inNr hown hK hP 0 rfl rfl 3 (by decide) (hg _ f_Nr_23) (fun _ h9 => h9) rfl dNr_copyOf_130 ?_
          refine lv_iload_n hx hb dNr_copyOf_133 rfl (lv_at hl 5 rfl) ?_
          refine lv_iload hx hb dNr_copyOf_134 (lv_at hl 0 rfl) ?_
          refine lv_ineg hx hb dNr_copyOf_136 ?_
          refine va_iast hx hb hK hP hD hS 8 0 rfl rfl (vp_in_nI (show k < σ.N by omega) hN) dNr_copyOf_137 (fun H locs hP hD hS => ?_)
          rw [nI_clamp (show k < 2 ^ 31 by omega)] at hP hD
          have hP : va_P D gC (nrW cI cP a ((((σ.sP 3 (σ.P 3 0, σ.P 3 1, (σ.P 3 2) + (nI (3 + nf + nw)), (σ.P 3 3) + 1)).sX (va_cpy σ.X σ.X k (f + us) (3 + nf + nw))).sF 5 ((σ.F 5) + 1)).sX (upd (va_cpy σ.X σ.X k (f + us) (3 + nf + nw)) k (-(nI (f + us)))))) H := hP
          have hD : va_D A (nrW cI cP a ((((σ.sP 3 (σ.P 3 0, σ.P 3 1, (σ.P 3 2) + (nI (3 + nf + nw)), (σ.P 3 3) + 1)).sX (va_cpy σ.X σ.X k (f + us) (3 + nf + nw))).sF 5 ((σ.F 5) + 1)).sX (upd (va_cpy σ.X σ.X k (f + us) (3 + nf + nw)) k (-(nI (f + us)))))) := hD
          refine lv_aload_n hx hb dNr_copyOf_138 rfl (lv_at hl 4 rfl) ?_
          refine lv_iload hx hb dNr_copyOf_139 (lv_at hl 0 rfl) ?_
          refine gx_callv (C := "NurseryRow") (As := [.int (nI (f + us))]) (rest := []) E (qNr_noteCopy l D cI cP a ((((σ.sP 3 (σ.P 3 0, σ.P 3 1, (σ.P 3 2) + (nI (3 + nf + nw)), (σ.P 3 3) + 1)).sX (va_cpy σ.X σ.X k (f + us) (3 + nf + nw))).sF 5 ((σ.F 5) + 1)).sX (upd (va_cpy σ.X σ.X k (f + us) (3 + nf + nw)) k (-(nI (f + us))))) nc (nI (f + us)) hnc hF0) (gx_cwV hts l_Nr_185 k_Nr_noteCopy ki_Nr_noteCopy ke_Nr_noteCopy z_Nr n_Nr_noteCopy ⟨by decide, by decide⟩) hK hP hD hS hA (va_recv hK hP (ci := 1) (q0 := 0) rfl rfl) hl.1 rfl rfl (Nat.le_of_ble_eq_true rfl) ⟨by decide, by decide⟩ dNr_copyOf_141 (fun u_5 H locs hq_6 hP hD hS => ?_)
          subst hq_6
          have hP : va_P D gC (nrW cI cP a ((((((σ.sP 3 (σ.P 3 0, σ.P 3 1, (σ.P 3 2) + (nI (3 + nf + nw)), (σ.P 3 3) + 1)).sX (va_cpy σ.X σ.X k (f + us) (3 + nf + nw))).sF 5 ((σ.F 5) + 1)).sX (upd (va_cpy σ.X σ.X k (f + us) (3 + nf + nw)) k (-(nI (f + us))))).sC (upd σ.C nc (nI (f + us)))).sF 0 (nI (nc + 1)))) H := hP
          have hD : va_D A (nrW cI cP a ((((((σ.sP 3 (σ.P 3 0, σ.P 3 1, (σ.P 3 2) + (nI (3 + nf + nw)), (σ.P 3 3) + 1)).sX (va_cpy σ.X σ.X k (f + us) (3 + nf + nw))).sF 5 ((σ.F 5) + 1)).sX (upd (va_cpy σ.X σ.X k (f + us) (3 + nf + nw)) k (-(nI (f + us))))).sC (upd σ.C nc (nI (f + us)))).sF 0 (nI (nc + 1)))) := hD
          refine lv_iload hx hb dNr_copyOf_144 (lv_at hl 0 rfl) ?_
          exact gx_iret (u := (((((σ.sP 3 (σ.P 3 0, σ.P 3 1, (σ.P 3 2) + (nI (3 + nf + nw)), (σ.P 3 3) + 1)).sX (va_cpy σ.X σ.X k (f + us) (3 + nf + nw))).sF 5 ((σ.F 5) + 1)).sX (upd (va_cpy σ.X σ.X k (f + us) (3 + nf + nw)) k (-(nI (f + us))))).sC (upd σ.C nc (nI (f + us)))).sF 0 (nI (nc + 1))) E hK hP hD hS ⟨rfl, rfl⟩ dNr_copyOf_146
        · exact absurd c_90 (by decide)
      · exact absurd c_50 (by decide)
    · refine lv_aload_n hx hb dNr_copyOf_33 rfl (lv_at hl 0 rfl) ?_
      refine gx_callp (C := "NurseryRow$Part") (As := []) (rest := []) E (nr_liftp (i := 2) (by decide) (qPt_free l D _ (a (2 + 2)) (σ.p 2))) (gx_cwV hts l_Nr_74 k_Pt_free ki_Pt_free ke_Pt_free z_Pt n_Pt_free ⟨by decide, by decide⟩) hK hP hD (va_recv hK hP (ci := 0) (q0 := 4) rfl rfl) hl.1 rfl rfl (Nat.le_of_ble_eq_true rfl) ⟨Nat.zero_le _, Nat.zero_le _⟩ dNr_copyOf_34 ?_
      refine gx_top (z := (σ.P 2 1) - (σ.P 2 2)) rfl ?_
      refine lv_iload_n hx hb dNr_copyOf_37 rfl (lv_at hl 1 rfl) ?_
      refine lv_icmp_lt (tgt := 45) hx hb dNr_copyOf_38 (by decide) (fun c_38 => ?_) (fun c_38 => ?_)
      · refine lv_iconst (v := 0) hx hb dNr_copyOf_45 (by decide) ?_
        refine lv_istore (lv' := [(4, .int 0), (3, .ref (a (2 + 2))), (2, .int (nI (3 + nf + nw))), (0, .ref (a 0)), (1, .int (nI k))]) hx hb dNr_copyOf_46 hl (by decide) rfl (fun ls hl => ?_)
        refine lv_iload hx hb dNr_copyOf_48 (lv_at hl 0 rfl) ?_
        refine lv_if_eq (tgt := 61) hx hb dNr_copyOf_50 (by decide) (fun c_50 => ?_) (fun c_50 => ?_)
        · refine lv_aload_n hx hb dNr_copyOf_61 rfl (lv_at hl 3 rfl) ?_
          refine va_get (C := RNr) (T := TNr) (N := 10) (ci := 1) (v := .ref (a 1)) hx hb hg inNr hown hK hP 0 rfl rfl 0 (by decide) (hg _ f_Nr_11) (fun _ h9 => h9) rfl dNr_copyOf_62 ?_
          refine lv_iconst (v := 3) hx hb dNr_copyOf_65 (by decide) ?_
          refine va_aldq hx hb hK hP 1 1 rfl rfl (by unfold vp_in; decide) dNr_copyOf_66 ?_
          refine gx_stk (st' := [.ref (a (2 + 3))]) rfl ?_
          refine lv_iload_n hx hb dNr_copyOf_67 rfl (lv_at hl 2 rfl) ?_
          refine gx_calli (C := "NurseryRow$Part") (As := [.int (nI (3 + nf + nw))]) (rest := []) E (nr_lifti (i := 3) (by decide) (qPt_take l D _ (a (2 + 3)) (σ.p 3) (nI (3 + nf + nw)))) (gx_cwV hts l_Nr_77 k_Pt_take ki_Pt_take ke_Pt_take z_Pt n_Pt_take ⟨by decide, by decide⟩) hK hP hD hS hA (va_recv hK hP (ci := 0) (q0 := 5) rfl rfl) hl.1 rfl rfl (Nat.le_of_ble_eq_true rfl) ⟨by decide, by decide⟩ dNr_copyOf_68 (fun r_7 u_8 H locs hq_9 hP hD hS => ?_)
          obtain ⟨v, ⟨hr1, hv⟩, hu⟩ := hq_9
          subst hu; subst hv
          have hr1 : r_7 = (σ.P 3 0) + (σ.P 3 2) := hr1
          subst hr1
          have hP : va_P D gC (nrW cI cP a (σ.sP 3 (σ.P 3 0, σ.P 3 1, (σ.P 3 2) + (nI (3 + nf + nw)), (σ.P 3 3) + 1))) H := hP
          have hD : va_D A (nrW cI cP a (σ.sP 3 (σ.P 3 0, σ.P 3 1, (σ.P 3 2) + (nI (3 + nf + nw)), (σ.P 3 3) + 1))) := hD
          refine gx_top (z := nI (f + us)) (by rw [hPf, hPu, nI_add]) ?_
          refine lv_istore (lv' := [(5, .int (nI (f + us))), (4, .int 0), (3, .ref (a (2 + 2))), (2, .int (nI (3 + nf + nw))), (0, .ref (a 0)), (1, .int (nI k))]) hx hb dNr_copyOf_71 hl (by decide) rfl (fun ls hl => ?_)
          refine lv_aload_n hx hb dNr_copyOf_73 rfl (lv_at hl 4 rfl) ?_
          refine va_get (C := RNr) (T := TNr) (N := 10) (ci := 1) (v := .ref σ.hx) hx hb hg inNr hown hK hP 0 rfl rfl 3 (by decide) (hg _ f_Nr_23) (fun _ h9 => h9) rfl dNr_copyOf_74 ?_
          refine lv_iload_n hx hb dNr_copyOf_77 rfl (lv_at hl 5 rfl) ?_
          refine lv_aload_n hx hb dNr_copyOf_78 rfl (lv_at hl 4 rfl) ?_
          refine va_get (C := RNr) (T := TNr) (N := 10) (ci := 1) (v := .ref σ.hx) hx hb hg inNr hown hK hP 0 rfl rfl 3 (by decide) (hg _ f_Nr_23) (fun _ h9 => h9) rfl dNr_copyOf_79 ?_
          refine lv_iload hx hb dNr_copyOf_82 (lv_at hl 0 rfl) ?_
          refine lv_iload_n hx hb dNr_copyOf_84 rfl (lv_at hl 3 rfl) ?_
          refine va_copyi hx hb (hml.trans hl.1.symm) hown (hg _ l_Nr_179) (hg _ kx_na) (hg _ kx_st) (hg _ z_System) hK hP hD hS 8 8 0 0 rfl rfl rfl rfl rfl (nI_pos (by omega)) (nI_pos (by omega)) (nI_pos (by omega)) (by rw [nI_clamp (by omega), nI_clamp (by omega)]; exact hk) (by rw [nI_clamp (by omega), nI_clamp (by omega)]; exact hb2) (fun _ _ => rfl) (by decide) (by decide) dNr_copyOf_85 (fun H locs hP hD hS => ?_)
          rw [nI_clamp (show k < 2 ^ 31 by omega), nI_clamp (show f + us < 2 ^ 31 by omega), nI_clamp (show 3 + nf + nw < 2 ^ 31 by omega)] at hP hD
          have hP : va_P D gC (nrW cI cP a ((σ.sP 3 (σ.P 3 0, σ.P 3 1, (σ.P 3 2) + (nI (3 + nf + nw)), (σ.P 3 3) + 1)).sX (va_cpy σ.X σ.X k (f + us) (3 + nf + nw)))) H := hP
          have hD : va_D A (nrW cI cP a ((σ.sP 3 (σ.P 3 0, σ.P 3 1, (σ.P 3 2) + (nI (3 + nf + nw)), (σ.P 3 3) + 1)).sX (va_cpy σ.X σ.X k (f + us) (3 + nf + nw)))) := hD
          refine lv_iload hx hb dNr_copyOf_88 (lv_at hl 1 rfl) ?_
          refine lv_if_eq (tgt := 119) hx hb dNr_copyOf_90 (by decide) (fun c_90 => ?_) (fun c_90 => ?_)
          · refine lv_aload_n hx hb dNr_copyOf_119 rfl (lv_at hl 4 rfl) ?_
            refine lv_dup hx hb dNr_copyOf_120 rfl ?_
            refine va_get (C := RNr) (T := TNr) (N := 10) (ci := 1) (v := .int (σ.F 5)) hx hb hg inNr hown hK hP 0 rfl rfl 9 (by decide) (hg _ f_Nr_67) (fun _ h9 => h9) rfl dNr_copyOf_121 ?_
            refine lv_iconst (v := 1) hx hb dNr_copyOf_124 (by decide) ?_
            refine lv_iadd hx hb dNr_copyOf_125 ?_
            refine va_put (C := RNr) (T := TNr) (N := 10) (ci := 1) (v := .int ((σ.F 5) + 1)) hx hb hg inNr tyNr tyNr_ok nmNr hown hK hP hD hS 0 rfl rfl 9 (by decide) (hg _ f_Nr_67) (fun _ h9 => h9) rfl (tyNr_ok 9 (by decide)) rfl rfl (Nat.le_of_ble_eq_true rfl) dNr_copyOf_126 (fun H locs hP hD hS => ?_)
            have hP : va_P D gC (nrW cI cP a (((σ.sP 3 (σ.P 3 0, σ.P 3 1, (σ.P 3 2) + (nI (3 + nf + nw)), (σ.P 3 3) + 1)).sX (va_cpy σ.X σ.X k (f + us) (3 + nf + nw))).sF 5 ((σ.F 5) + 1))) H := hP
            have hD : va_D A (nrW cI cP a (((σ.sP 3 (σ.P 3 0, σ.P 3 1, (σ.P 3 2) + (nI (3 + nf + nw)), (σ.P 3 3) + 1)).sX (va_cpy σ.X σ.X k (f + us) (3 + nf + nw))).sF 5 ((σ.F 5) + 1))) := hD
            refine lv_aload_n hx hb dNr_copyOf_129 rfl (lv_at hl 4 rfl) ?_
            refine va_get (C := RNr) (T := TNr) (N := 10) (ci := 1) (v := .ref σ.hx) hx hb hg inNr hown hK hP 0 rfl rfl 3 (by decide) (hg _ f_Nr_23) (fun _ h9 => h9) rfl dNr_copyOf_130 ?_
            refine lv_iload_n hx hb dNr_copyOf_133 rfl (lv_at hl 5 rfl) ?_
            refine lv_iload hx hb dNr_copyOf_134 (lv_at hl 0 rfl) ?_
            refine lv_ineg hx hb dNr_copyOf_136 ?_
            refine va_iast hx hb hK hP hD hS 8 0 rfl rfl (vp_in_nI (show k < σ.N by omega) hN) dNr_copyOf_137 (fun H locs hP hD hS => ?_)
            rw [nI_clamp (show k < 2 ^ 31 by omega)] at hP hD
            have hP : va_P D gC (nrW cI cP a ((((σ.sP 3 (σ.P 3 0, σ.P 3 1, (σ.P 3 2) + (nI (3 + nf + nw)), (σ.P 3 3) + 1)).sX (va_cpy σ.X σ.X k (f + us) (3 + nf + nw))).sF 5 ((σ.F 5) + 1)).sX (upd (va_cpy σ.X σ.X k (f + us) (3 + nf + nw)) k (-(nI (f + us)))))) H := hP
            have hD : va_D A (nrW cI cP a ((((σ.sP 3 (σ.P 3 0, σ.P 3 1, (σ.P 3 2) + (nI (3 + nf + nw)), (σ.P 3 3) + 1)).sX (va_cpy σ.X σ.X k (f + us) (3 + nf + nw))).sF 5 ((σ.F 5) + 1)).sX (upd (va_cpy σ.X σ.X k (f + us) (3 + nf + nw)) k (-(nI (f + us)))))) := hD
            refine lv_aload_n hx hb dNr_copyOf_138 rfl (lv_at hl 4 rfl) ?_
            refine lv_iload hx hb dNr_copyOf_139 (lv_at hl 0 rfl) ?_
            refine gx_callv (C := "NurseryRow") (As := [.int (nI (f + us))]) (rest := []) E (qNr_noteCopy l D cI cP a ((((σ.sP 3 (σ.P 3 0, σ.P 3 1, (σ.P 3 2) + (nI (3 + nf + nw)), (σ.P 3 3) + 1)).sX (va_cpy σ.X σ.X k (f + us) (3 + nf + nw))).sF 5 ((σ.F 5) + 1)).sX (upd (va_cpy σ.X σ.X k (f + us) (3 + nf + nw)) k (-(nI (f + us))))) nc (nI (f + us)) hnc hF0) (gx_cwV hts l_Nr_185 k_Nr_noteCopy ki_Nr_noteCopy ke_Nr_noteCopy z_Nr n_Nr_noteCopy ⟨by decide, by decide⟩) hK hP hD hS hA (va_recv hK hP (ci := 1) (q0 := 0) rfl rfl) hl.1 rfl rfl (Nat.le_of_ble_eq_true rfl) ⟨by decide, by decide⟩ dNr_copyOf_141 (fun u_11 H locs hq_12 hP hD hS => ?_)
            subst hq_12
            have hP : va_P D gC (nrW cI cP a ((((((σ.sP 3 (σ.P 3 0, σ.P 3 1, (σ.P 3 2) + (nI (3 + nf + nw)), (σ.P 3 3) + 1)).sX (va_cpy σ.X σ.X k (f + us) (3 + nf + nw))).sF 5 ((σ.F 5) + 1)).sX (upd (va_cpy σ.X σ.X k (f + us) (3 + nf + nw)) k (-(nI (f + us))))).sC (upd σ.C nc (nI (f + us)))).sF 0 (nI (nc + 1)))) H := hP
            have hD : va_D A (nrW cI cP a ((((((σ.sP 3 (σ.P 3 0, σ.P 3 1, (σ.P 3 2) + (nI (3 + nf + nw)), (σ.P 3 3) + 1)).sX (va_cpy σ.X σ.X k (f + us) (3 + nf + nw))).sF 5 ((σ.F 5) + 1)).sX (upd (va_cpy σ.X σ.X k (f + us) (3 + nf + nw)) k (-(nI (f + us))))).sC (upd σ.C nc (nI (f + us)))).sF 0 (nI (nc + 1)))) := hD
            refine lv_iload hx hb dNr_copyOf_144 (lv_at hl 0 rfl) ?_
            exact gx_iret (u := (((((σ.sP 3 (σ.P 3 0, σ.P 3 1, (σ.P 3 2) + (nI (3 + nf + nw)), (σ.P 3 3) + 1)).sX (va_cpy σ.X σ.X k (f + us) (3 + nf + nw))).sF 5 ((σ.F 5) + 1)).sX (upd (va_cpy σ.X σ.X k (f + us) (3 + nf + nw)) k (-(nI (f + us))))).sC (upd σ.C nc (nI (f + us)))).sF 0 (nI (nc + 1))) E hK hP hD hS ⟨rfl, rfl⟩ dNr_copyOf_146
          · exact absurd c_90 (by decide)
        · exact absurd c_50 (by decide)
      · exact absurd c_38 (fun z => (hst.elim (fun h => h (Int32.not_le.mp c_30)) (fun h => z h)))
  · refine lv_aload_n hx hb dNr_copyOf_0 rfl (lv_at hl 0 rfl) ?_
    refine lv_iload_n hx hb dNr_copyOf_1 rfl (lv_at hl 1 rfl) ?_
    refine gx_callp (C := "NurseryRow") (As := [.int (nI k)]) (rest := []) E (qNr_sizeAt l D cI cP a σ k (by omega) hN) (gx_cwV hts l_Nr_150 k_Nr_sizeAt ki_Nr_sizeAt ke_Nr_sizeAt z_Nr n_Nr_sizeAt ⟨by decide, by decide⟩) hK hP hD (va_recv hK hP (ci := 1) (q0 := 0) rfl rfl) hl.1 rfl rfl (Nat.le_of_ble_eq_true rfl) ⟨Nat.zero_le _, Nat.zero_le _⟩ dNr_copyOf_2 ?_
    refine gx_top (z := nI (3 + nf + nw)) (by rw [hX0, hX1, show (3 : Int32) = nI 3 from rfl, nI_add, nI_add]) ?_
    refine lv_istore_n (lv' := [(2, .int (nI (3 + nf + nw))), (0, .ref (a 0)), (1, .int (nI k))]) hx hb dNr_copyOf_5 rfl hl (by decide) rfl (fun ls hl => ?_)
    refine lv_aload_n hx hb dNr_copyOf_6 rfl (lv_at hl 1 rfl) ?_
    refine va_get (C := RNr) (T := TNr) (N := 10) (ci := 1) (v := .ref (a 1)) hx hb hg inNr hown hK hP 0 rfl rfl 0 (by decide) (hg _ f_Nr_11) (fun _ h9 => h9) rfl dNr_copyOf_7 ?_
    refine lv_iconst (v := 2) hx hb dNr_copyOf_10 (by decide) ?_
    refine lv_aload_n hx hb dNr_copyOf_11 rfl (lv_at hl 1 rfl) ?_
    refine va_get (C := RNr) (T := TNr) (N := 10) (ci := 1) (v := .int (σ.F 2)) hx hb hg inNr hown hK hP 0 rfl rfl 6 (by decide) (hg _ f_Nr_58) (fun _ h9 => h9) rfl dNr_copyOf_12 ?_
    refine gx_top (z := 1) hrw ?_
    refine lv_isub hx hb dNr_copyOf_15 ?_
    refine gx_top (z := 1) (by decide) ?_
    refine va_aldq hx hb hK hP 1 1 rfl rfl (by unfold vp_in; decide) dNr_copyOf_16 ?_
    refine gx_stk (st' := [.ref (a (2 + 1))]) rfl ?_
    refine lv_astore_n (lv' := [(3, .ref (a (2 + 1))), (2, .int (nI (3 + nf + nw))), (0, .ref (a 0)), (1, .int (nI k))]) hx hb dNr_copyOf_17 rfl hl (by decide) rfl (fun ls hl => ?_)
    refine lv_aload_n hx hb dNr_copyOf_18 rfl (lv_at hl 2 rfl) ?_
    refine va_get (C := RNr) (T := TNr) (N := 10) (ci := 1) (v := .ref σ.hx) hx hb hg inNr hown hK hP 0 rfl rfl 3 (by decide) (hg _ f_Nr_23) (fun _ h9 => h9) rfl dNr_copyOf_19 ?_
    refine lv_iload_n hx hb dNr_copyOf_22 rfl (lv_at hl 3 rfl) ?_
    refine lv_iconst (v := 2) hx hb dNr_copyOf_23 (by decide) ?_
    refine lv_iadd hx hb dNr_copyOf_24 ?_
    refine gx_top (z := nI (k + 2)) (by rw [show (2 : Int32) = nI 2 from rfl, nI_add]) ?_
    refine va_iald hx hb hK hP 8 0 rfl rfl (vp_in_nI (show k + 2 < σ.N by omega) hN) dNr_copyOf_25 ?_
    refine gx_top (z := σ.X (k + 2)) (congrArg _ (nI_clamp (show k + 2 < 2 ^ 31 by omega))) ?_
    refine lv_aload_n hx hb dNr_copyOf_26 rfl (lv_at hl 2 rfl) ?_
    refine va_get (C := RNr) (T := TNr) (N := 10) (ci := 1) (v := .int (σ.F 1)) hx hb hg inNr hown hK hP 0 rfl rfl 5 (by decide) (hg _ f_Nr_26) (fun _ h9 => h9) rfl dNr_copyOf_27 ?_
    refine lv_icmp_ge (tgt := 45) hx hb dNr_copyOf_30 (by decide) (fun c_30 => ?_) (fun c_30 => ?_)
    · refine lv_iconst (v := 0) hx hb dNr_copyOf_45 (by decide) ?_
      refine lv_istore (lv' := [(4, .int 0), (3, .ref (a (2 + 1))), (2, .int (nI (3 + nf + nw))), (0, .ref (a 0)), (1, .int (nI k))]) hx hb dNr_copyOf_46 hl (by decide) rfl (fun ls hl => ?_)
      refine lv_iload hx hb dNr_copyOf_48 (lv_at hl 0 rfl) ?_
      refine lv_if_eq (tgt := 61) hx hb dNr_copyOf_50 (by decide) (fun c_50 => ?_) (fun c_50 => ?_)
      · refine lv_aload_n hx hb dNr_copyOf_61 rfl (lv_at hl 3 rfl) ?_
        refine va_get (C := RNr) (T := TNr) (N := 10) (ci := 1) (v := .ref (a 1)) hx hb hg inNr hown hK hP 0 rfl rfl 0 (by decide) (hg _ f_Nr_11) (fun _ h9 => h9) rfl dNr_copyOf_62 ?_
        refine lv_iconst (v := 3) hx hb dNr_copyOf_65 (by decide) ?_
        refine va_aldq hx hb hK hP 1 1 rfl rfl (by unfold vp_in; decide) dNr_copyOf_66 ?_
        refine gx_stk (st' := [.ref (a (2 + 3))]) rfl ?_
        refine lv_iload_n hx hb dNr_copyOf_67 rfl (lv_at hl 2 rfl) ?_
        refine gx_calli (C := "NurseryRow$Part") (As := [.int (nI (3 + nf + nw))]) (rest := []) E (nr_lifti (i := 3) (by decide) (qPt_take l D _ (a (2 + 3)) (σ.p 3) (nI (3 + nf + nw)))) (gx_cwV hts l_Nr_77 k_Pt_take ki_Pt_take ke_Pt_take z_Pt n_Pt_take ⟨by decide, by decide⟩) hK hP hD hS hA (va_recv hK hP (ci := 0) (q0 := 5) rfl rfl) hl.1 rfl rfl (Nat.le_of_ble_eq_true rfl) ⟨by decide, by decide⟩ dNr_copyOf_68 (fun r_13 u_14 H locs hq_15 hP hD hS => ?_)
        obtain ⟨v, ⟨hr1, hv⟩, hu⟩ := hq_15
        subst hu; subst hv
        have hr1 : r_13 = (σ.P 3 0) + (σ.P 3 2) := hr1
        subst hr1
        have hP : va_P D gC (nrW cI cP a (σ.sP 3 (σ.P 3 0, σ.P 3 1, (σ.P 3 2) + (nI (3 + nf + nw)), (σ.P 3 3) + 1))) H := hP
        have hD : va_D A (nrW cI cP a (σ.sP 3 (σ.P 3 0, σ.P 3 1, (σ.P 3 2) + (nI (3 + nf + nw)), (σ.P 3 3) + 1))) := hD
        refine gx_top (z := nI (f + us)) (by rw [hPf, hPu, nI_add]) ?_
        refine lv_istore (lv' := [(5, .int (nI (f + us))), (4, .int 0), (3, .ref (a (2 + 1))), (2, .int (nI (3 + nf + nw))), (0, .ref (a 0)), (1, .int (nI k))]) hx hb dNr_copyOf_71 hl (by decide) rfl (fun ls hl => ?_)
        refine lv_aload_n hx hb dNr_copyOf_73 rfl (lv_at hl 4 rfl) ?_
        refine va_get (C := RNr) (T := TNr) (N := 10) (ci := 1) (v := .ref σ.hx) hx hb hg inNr hown hK hP 0 rfl rfl 3 (by decide) (hg _ f_Nr_23) (fun _ h9 => h9) rfl dNr_copyOf_74 ?_
        refine lv_iload_n hx hb dNr_copyOf_77 rfl (lv_at hl 5 rfl) ?_
        refine lv_aload_n hx hb dNr_copyOf_78 rfl (lv_at hl 4 rfl) ?_
        refine va_get (C := RNr) (T := TNr) (N := 10) (ci := 1) (v := .ref σ.hx) hx hb hg inNr hown hK hP 0 rfl rfl 3 (by decide) (hg _ f_Nr_23) (fun _ h9 => h9) rfl dNr_copyOf_79 ?_
        refine lv_iload hx hb dNr_copyOf_82 (lv_at hl 0 rfl) ?_
        refine lv_iload_n hx hb dNr_copyOf_84 rfl (lv_at hl 3 rfl) ?_
        refine va_copyi hx hb (hml.trans hl.1.symm) hown (hg _ l_Nr_179) (hg _ kx_na) (hg _ kx_st) (hg _ z_System) hK hP hD hS 8 8 0 0 rfl rfl rfl rfl rfl (nI_pos (by omega)) (nI_pos (by omega)) (nI_pos (by omega)) (by rw [nI_clamp (by omega), nI_clamp (by omega)]; exact hk) (by rw [nI_clamp (by omega), nI_clamp (by omega)]; exact hb2) (fun _ _ => rfl) (by decide) (by decide) dNr_copyOf_85 (fun H locs hP hD hS => ?_)
        rw [nI_clamp (show k < 2 ^ 31 by omega), nI_clamp (show f + us < 2 ^ 31 by omega), nI_clamp (show 3 + nf + nw < 2 ^ 31 by omega)] at hP hD
        have hP : va_P D gC (nrW cI cP a ((σ.sP 3 (σ.P 3 0, σ.P 3 1, (σ.P 3 2) + (nI (3 + nf + nw)), (σ.P 3 3) + 1)).sX (va_cpy σ.X σ.X k (f + us) (3 + nf + nw)))) H := hP
        have hD : va_D A (nrW cI cP a ((σ.sP 3 (σ.P 3 0, σ.P 3 1, (σ.P 3 2) + (nI (3 + nf + nw)), (σ.P 3 3) + 1)).sX (va_cpy σ.X σ.X k (f + us) (3 + nf + nw)))) := hD
        refine lv_iload hx hb dNr_copyOf_88 (lv_at hl 1 rfl) ?_
        refine lv_if_eq (tgt := 119) hx hb dNr_copyOf_90 (by decide) (fun c_90 => ?_) (fun c_90 => ?_)
        · refine lv_aload_n hx hb dNr_copyOf_119 rfl (lv_at hl 4 rfl) ?_
          refine lv_dup hx hb dNr_copyOf_120 rfl ?_
          refine va_get (C := RNr) (T := TNr) (N := 10) (ci := 1) (v := .int (σ.F 5)) hx hb hg inNr hown hK hP 0 rfl rfl 9 (by decide) (hg _ f_Nr_67) (fun _ h9 => h9) rfl dNr_copyOf_121 ?_
          refine lv_iconst (v := 1) hx hb dNr_copyOf_124 (by decide) ?_
          refine lv_iadd hx hb dNr_copyOf_125 ?_
          refine va_put (C := RNr) (T := TNr) (N := 10) (ci := 1) (v := .int ((σ.F 5) + 1)) hx hb hg inNr tyNr tyNr_ok nmNr hown hK hP hD hS 0 rfl rfl 9 (by decide) (hg _ f_Nr_67) (fun _ h9 => h9) rfl (tyNr_ok 9 (by decide)) rfl rfl (Nat.le_of_ble_eq_true rfl) dNr_copyOf_126 (fun H locs hP hD hS => ?_)
          have hP : va_P D gC (nrW cI cP a (((σ.sP 3 (σ.P 3 0, σ.P 3 1, (σ.P 3 2) + (nI (3 + nf + nw)), (σ.P 3 3) + 1)).sX (va_cpy σ.X σ.X k (f + us) (3 + nf + nw))).sF 5 ((σ.F 5) + 1))) H := hP
          have hD : va_D A (nrW cI cP a (((σ.sP 3 (σ.P 3 0, σ.P 3 1, (σ.P 3 2) + (nI (3 + nf + nw)), (σ.P 3 3) + 1)).sX (va_cpy σ.X σ.X k (f + us) (3 + nf + nw))).sF 5 ((σ.F 5) + 1))) := hD
          refine lv_aload_n hx hb dNr_copyOf_129 rfl (lv_at hl 4 rfl) ?_
          refine va_get (C := RNr) (T := TNr) (N := 10) (ci := 1) (v := .ref σ.hx) hx hb hg inNr hown hK hP 0 rfl rfl 3 (by decide) (hg _ f_Nr_23) (fun _ h9 => h9) rfl dNr_copyOf_130 ?_
          refine lv_iload_n hx hb dNr_copyOf_133 rfl (lv_at hl 5 rfl) ?_
          refine lv_iload hx hb dNr_copyOf_134 (lv_at hl 0 rfl) ?_
          refine lv_ineg hx hb dNr_copyOf_136 ?_
          refine va_iast hx hb hK hP hD hS 8 0 rfl rfl (vp_in_nI (show k < σ.N by omega) hN) dNr_copyOf_137 (fun H locs hP hD hS => ?_)
          rw [nI_clamp (show k < 2 ^ 31 by omega)] at hP hD
          have hP : va_P D gC (nrW cI cP a ((((σ.sP 3 (σ.P 3 0, σ.P 3 1, (σ.P 3 2) + (nI (3 + nf + nw)), (σ.P 3 3) + 1)).sX (va_cpy σ.X σ.X k (f + us) (3 + nf + nw))).sF 5 ((σ.F 5) + 1)).sX (upd (va_cpy σ.X σ.X k (f + us) (3 + nf + nw)) k (-(nI (f + us)))))) H := hP
          have hD : va_D A (nrW cI cP a ((((σ.sP 3 (σ.P 3 0, σ.P 3 1, (σ.P 3 2) + (nI (3 + nf + nw)), (σ.P 3 3) + 1)).sX (va_cpy σ.X σ.X k (f + us) (3 + nf + nw))).sF 5 ((σ.F 5) + 1)).sX (upd (va_cpy σ.X σ.X k (f + us) (3 + nf + nw)) k (-(nI (f + us)))))) := hD
          refine lv_aload_n hx hb dNr_copyOf_138 rfl (lv_at hl 4 rfl) ?_
          refine lv_iload hx hb dNr_copyOf_139 (lv_at hl 0 rfl) ?_
          refine gx_callv (C := "NurseryRow") (As := [.int (nI (f + us))]) (rest := []) E (qNr_noteCopy l D cI cP a ((((σ.sP 3 (σ.P 3 0, σ.P 3 1, (σ.P 3 2) + (nI (3 + nf + nw)), (σ.P 3 3) + 1)).sX (va_cpy σ.X σ.X k (f + us) (3 + nf + nw))).sF 5 ((σ.F 5) + 1)).sX (upd (va_cpy σ.X σ.X k (f + us) (3 + nf + nw)) k (-(nI (f + us))))) nc (nI (f + us)) hnc hF0) (gx_cwV hts l_Nr_185 k_Nr_noteCopy ki_Nr_noteCopy ke_Nr_noteCopy z_Nr n_Nr_noteCopy ⟨by decide, by decide⟩) hK hP hD hS hA (va_recv hK hP (ci := 1) (q0 := 0) rfl rfl) hl.1 rfl rfl (Nat.le_of_ble_eq_true rfl) ⟨by decide, by decide⟩ dNr_copyOf_141 (fun u_17 H locs hq_18 hP hD hS => ?_)
          subst hq_18
          have hP : va_P D gC (nrW cI cP a ((((((σ.sP 3 (σ.P 3 0, σ.P 3 1, (σ.P 3 2) + (nI (3 + nf + nw)), (σ.P 3 3) + 1)).sX (va_cpy σ.X σ.X k (f + us) (3 + nf + nw))).sF 5 ((σ.F 5) + 1)).sX (upd (va_cpy σ.X σ.X k (f + us) (3 + nf + nw)) k (-(nI (f + us))))).sC (upd σ.C nc (nI (f + us)))).sF 0 (nI (nc + 1)))) H := hP
          have hD : va_D A (nrW cI cP a ((((((σ.sP 3 (σ.P 3 0, σ.P 3 1, (σ.P 3 2) + (nI (3 + nf + nw)), (σ.P 3 3) + 1)).sX (va_cpy σ.X σ.X k (f + us) (3 + nf + nw))).sF 5 ((σ.F 5) + 1)).sX (upd (va_cpy σ.X σ.X k (f + us) (3 + nf + nw)) k (-(nI (f + us))))).sC (upd σ.C nc (nI (f + us)))).sF 0 (nI (nc + 1)))) := hD
          refine lv_iload hx hb dNr_copyOf_144 (lv_at hl 0 rfl) ?_
          exact gx_iret (u := (((((σ.sP 3 (σ.P 3 0, σ.P 3 1, (σ.P 3 2) + (nI (3 + nf + nw)), (σ.P 3 3) + 1)).sX (va_cpy σ.X σ.X k (f + us) (3 + nf + nw))).sF 5 ((σ.F 5) + 1)).sX (upd (va_cpy σ.X σ.X k (f + us) (3 + nf + nw)) k (-(nI (f + us))))).sC (upd σ.C nc (nI (f + us)))).sF 0 (nI (nc + 1))) E hK hP hD hS ⟨rfl, rfl⟩ dNr_copyOf_146
        · exact absurd c_90 (by decide)
      · exact absurd c_50 (by decide)
    · refine lv_aload_n hx hb dNr_copyOf_33 rfl (lv_at hl 0 rfl) ?_
      refine gx_callp (C := "NurseryRow$Part") (As := []) (rest := []) E (nr_liftp (i := 1) (by decide) (qPt_free l D _ (a (2 + 1)) (σ.p 1))) (gx_cwV hts l_Nr_74 k_Pt_free ki_Pt_free ke_Pt_free z_Pt n_Pt_free ⟨by decide, by decide⟩) hK hP hD (va_recv hK hP (ci := 0) (q0 := 3) rfl rfl) hl.1 rfl rfl (Nat.le_of_ble_eq_true rfl) ⟨Nat.zero_le _, Nat.zero_le _⟩ dNr_copyOf_34 ?_
      refine gx_top (z := (σ.P 1 1) - (σ.P 1 2)) rfl ?_
      refine lv_iload_n hx hb dNr_copyOf_37 rfl (lv_at hl 1 rfl) ?_
      refine lv_icmp_lt (tgt := 45) hx hb dNr_copyOf_38 (by decide) (fun c_38 => ?_) (fun c_38 => ?_)
      · refine lv_iconst (v := 0) hx hb dNr_copyOf_45 (by decide) ?_
        refine lv_istore (lv' := [(4, .int 0), (3, .ref (a (2 + 1))), (2, .int (nI (3 + nf + nw))), (0, .ref (a 0)), (1, .int (nI k))]) hx hb dNr_copyOf_46 hl (by decide) rfl (fun ls hl => ?_)
        refine lv_iload hx hb dNr_copyOf_48 (lv_at hl 0 rfl) ?_
        refine lv_if_eq (tgt := 61) hx hb dNr_copyOf_50 (by decide) (fun c_50 => ?_) (fun c_50 => ?_)
        · refine lv_aload_n hx hb dNr_copyOf_61 rfl (lv_at hl 3 rfl) ?_
          refine va_get (C := RNr) (T := TNr) (N := 10) (ci := 1) (v := .ref (a 1)) hx hb hg inNr hown hK hP 0 rfl rfl 0 (by decide) (hg _ f_Nr_11) (fun _ h9 => h9) rfl dNr_copyOf_62 ?_
          refine lv_iconst (v := 3) hx hb dNr_copyOf_65 (by decide) ?_
          refine va_aldq hx hb hK hP 1 1 rfl rfl (by unfold vp_in; decide) dNr_copyOf_66 ?_
          refine gx_stk (st' := [.ref (a (2 + 3))]) rfl ?_
          refine lv_iload_n hx hb dNr_copyOf_67 rfl (lv_at hl 2 rfl) ?_
          refine gx_calli (C := "NurseryRow$Part") (As := [.int (nI (3 + nf + nw))]) (rest := []) E (nr_lifti (i := 3) (by decide) (qPt_take l D _ (a (2 + 3)) (σ.p 3) (nI (3 + nf + nw)))) (gx_cwV hts l_Nr_77 k_Pt_take ki_Pt_take ke_Pt_take z_Pt n_Pt_take ⟨by decide, by decide⟩) hK hP hD hS hA (va_recv hK hP (ci := 0) (q0 := 5) rfl rfl) hl.1 rfl rfl (Nat.le_of_ble_eq_true rfl) ⟨by decide, by decide⟩ dNr_copyOf_68 (fun r_19 u_20 H locs hq_21 hP hD hS => ?_)
          obtain ⟨v, ⟨hr1, hv⟩, hu⟩ := hq_21
          subst hu; subst hv
          have hr1 : r_19 = (σ.P 3 0) + (σ.P 3 2) := hr1
          subst hr1
          have hP : va_P D gC (nrW cI cP a (σ.sP 3 (σ.P 3 0, σ.P 3 1, (σ.P 3 2) + (nI (3 + nf + nw)), (σ.P 3 3) + 1))) H := hP
          have hD : va_D A (nrW cI cP a (σ.sP 3 (σ.P 3 0, σ.P 3 1, (σ.P 3 2) + (nI (3 + nf + nw)), (σ.P 3 3) + 1))) := hD
          refine gx_top (z := nI (f + us)) (by rw [hPf, hPu, nI_add]) ?_
          refine lv_istore (lv' := [(5, .int (nI (f + us))), (4, .int 0), (3, .ref (a (2 + 1))), (2, .int (nI (3 + nf + nw))), (0, .ref (a 0)), (1, .int (nI k))]) hx hb dNr_copyOf_71 hl (by decide) rfl (fun ls hl => ?_)
          refine lv_aload_n hx hb dNr_copyOf_73 rfl (lv_at hl 4 rfl) ?_
          refine va_get (C := RNr) (T := TNr) (N := 10) (ci := 1) (v := .ref σ.hx) hx hb hg inNr hown hK hP 0 rfl rfl 3 (by decide) (hg _ f_Nr_23) (fun _ h9 => h9) rfl dNr_copyOf_74 ?_
          refine lv_iload_n hx hb dNr_copyOf_77 rfl (lv_at hl 5 rfl) ?_
          refine lv_aload_n hx hb dNr_copyOf_78 rfl (lv_at hl 4 rfl) ?_
          refine va_get (C := RNr) (T := TNr) (N := 10) (ci := 1) (v := .ref σ.hx) hx hb hg inNr hown hK hP 0 rfl rfl 3 (by decide) (hg _ f_Nr_23) (fun _ h9 => h9) rfl dNr_copyOf_79 ?_
          refine lv_iload hx hb dNr_copyOf_82 (lv_at hl 0 rfl) ?_
          refine lv_iload_n hx hb dNr_copyOf_84 rfl (lv_at hl 3 rfl) ?_
          refine va_copyi hx hb (hml.trans hl.1.symm) hown (hg _ l_Nr_179) (hg _ kx_na) (hg _ kx_st) (hg _ z_System) hK hP hD hS 8 8 0 0 rfl rfl rfl rfl rfl (nI_pos (by omega)) (nI_pos (by omega)) (nI_pos (by omega)) (by rw [nI_clamp (by omega), nI_clamp (by omega)]; exact hk) (by rw [nI_clamp (by omega), nI_clamp (by omega)]; exact hb2) (fun _ _ => rfl) (by decide) (by decide) dNr_copyOf_85 (fun H locs hP hD hS => ?_)
          rw [nI_clamp (show k < 2 ^ 31 by omega), nI_clamp (show f + us < 2 ^ 31 by omega), nI_clamp (show 3 + nf + nw < 2 ^ 31 by omega)] at hP hD
          have hP : va_P D gC (nrW cI cP a ((σ.sP 3 (σ.P 3 0, σ.P 3 1, (σ.P 3 2) + (nI (3 + nf + nw)), (σ.P 3 3) + 1)).sX (va_cpy σ.X σ.X k (f + us) (3 + nf + nw)))) H := hP
          have hD : va_D A (nrW cI cP a ((σ.sP 3 (σ.P 3 0, σ.P 3 1, (σ.P 3 2) + (nI (3 + nf + nw)), (σ.P 3 3) + 1)).sX (va_cpy σ.X σ.X k (f + us) (3 + nf + nw)))) := hD
          refine lv_iload hx hb dNr_copyOf_88 (lv_at hl 1 rfl) ?_
          refine lv_if_eq (tgt := 119) hx hb dNr_copyOf_90 (by decide) (fun c_90 => ?_) (fun c_90 => ?_)
          · refine lv_aload_n hx hb dNr_copyOf_119 rfl (lv_at hl 4 rfl) ?_
            refine lv_dup hx hb dNr_copyOf_120 rfl ?_
            refine va_get (C := RNr) (T := TNr) (N := 10) (ci := 1) (v := .int (σ.F 5)) hx hb hg inNr hown hK hP 0 rfl rfl 9 (by decide) (hg _ f_Nr_67) (fun _ h9 => h9) rfl dNr_copyOf_121 ?_
            refine lv_iconst (v := 1) hx hb dNr_copyOf_124 (by decide) ?_
            refine lv_iadd hx hb dNr_copyOf_125 ?_
            refine va_put (C := RNr) (T := TNr) (N := 10) (ci := 1) (v := .int ((σ.F 5) + 1)) hx hb hg inNr tyNr tyNr_ok nmNr hown hK hP hD hS 0 rfl rfl 9 (by decide) (hg _ f_Nr_67) (fun _ h9 => h9) rfl (tyNr_ok 9 (by decide)) rfl rfl (Nat.le_of_ble_eq_true rfl) dNr_copyOf_126 (fun H locs hP hD hS => ?_)
            have hP : va_P D gC (nrW cI cP a (((σ.sP 3 (σ.P 3 0, σ.P 3 1, (σ.P 3 2) + (nI (3 + nf + nw)), (σ.P 3 3) + 1)).sX (va_cpy σ.X σ.X k (f + us) (3 + nf + nw))).sF 5 ((σ.F 5) + 1))) H := hP
            have hD : va_D A (nrW cI cP a (((σ.sP 3 (σ.P 3 0, σ.P 3 1, (σ.P 3 2) + (nI (3 + nf + nw)), (σ.P 3 3) + 1)).sX (va_cpy σ.X σ.X k (f + us) (3 + nf + nw))).sF 5 ((σ.F 5) + 1))) := hD
            refine lv_aload_n hx hb dNr_copyOf_129 rfl (lv_at hl 4 rfl) ?_
            refine va_get (C := RNr) (T := TNr) (N := 10) (ci := 1) (v := .ref σ.hx) hx hb hg inNr hown hK hP 0 rfl rfl 3 (by decide) (hg _ f_Nr_23) (fun _ h9 => h9) rfl dNr_copyOf_130 ?_
            refine lv_iload_n hx hb dNr_copyOf_133 rfl (lv_at hl 5 rfl) ?_
            refine lv_iload hx hb dNr_copyOf_134 (lv_at hl 0 rfl) ?_
            refine lv_ineg hx hb dNr_copyOf_136 ?_
            refine va_iast hx hb hK hP hD hS 8 0 rfl rfl (vp_in_nI (show k < σ.N by omega) hN) dNr_copyOf_137 (fun H locs hP hD hS => ?_)
            rw [nI_clamp (show k < 2 ^ 31 by omega)] at hP hD
            have hP : va_P D gC (nrW cI cP a ((((σ.sP 3 (σ.P 3 0, σ.P 3 1, (σ.P 3 2) + (nI (3 + nf + nw)), (σ.P 3 3) + 1)).sX (va_cpy σ.X σ.X k (f + us) (3 + nf + nw))).sF 5 ((σ.F 5) + 1)).sX (upd (va_cpy σ.X σ.X k (f + us) (3 + nf + nw)) k (-(nI (f + us)))))) H := hP
            have hD : va_D A (nrW cI cP a ((((σ.sP 3 (σ.P 3 0, σ.P 3 1, (σ.P 3 2) + (nI (3 + nf + nw)), (σ.P 3 3) + 1)).sX (va_cpy σ.X σ.X k (f + us) (3 + nf + nw))).sF 5 ((σ.F 5) + 1)).sX (upd (va_cpy σ.X σ.X k (f + us) (3 + nf + nw)) k (-(nI (f + us)))))) := hD
            refine lv_aload_n hx hb dNr_copyOf_138 rfl (lv_at hl 4 rfl) ?_
            refine lv_iload hx hb dNr_copyOf_139 (lv_at hl 0 rfl) ?_
            refine gx_callv (C := "NurseryRow") (As := [.int (nI (f + us))]) (rest := []) E (qNr_noteCopy l D cI cP a ((((σ.sP 3 (σ.P 3 0, σ.P 3 1, (σ.P 3 2) + (nI (3 + nf + nw)), (σ.P 3 3) + 1)).sX (va_cpy σ.X σ.X k (f + us) (3 + nf + nw))).sF 5 ((σ.F 5) + 1)).sX (upd (va_cpy σ.X σ.X k (f + us) (3 + nf + nw)) k (-(nI (f + us))))) nc (nI (f + us)) hnc hF0) (gx_cwV hts l_Nr_185 k_Nr_noteCopy ki_Nr_noteCopy ke_Nr_noteCopy z_Nr n_Nr_noteCopy ⟨by decide, by decide⟩) hK hP hD hS hA (va_recv hK hP (ci := 1) (q0 := 0) rfl rfl) hl.1 rfl rfl (Nat.le_of_ble_eq_true rfl) ⟨by decide, by decide⟩ dNr_copyOf_141 (fun u_23 H locs hq_24 hP hD hS => ?_)
            subst hq_24
            have hP : va_P D gC (nrW cI cP a ((((((σ.sP 3 (σ.P 3 0, σ.P 3 1, (σ.P 3 2) + (nI (3 + nf + nw)), (σ.P 3 3) + 1)).sX (va_cpy σ.X σ.X k (f + us) (3 + nf + nw))).sF 5 ((σ.F 5) + 1)).sX (upd (va_cpy σ.X σ.X k (f + us) (3 + nf + nw)) k (-(nI (f + us))))).sC (upd σ.C nc (nI (f + us)))).sF 0 (nI (nc + 1)))) H := hP
            have hD : va_D A (nrW cI cP a ((((((σ.sP 3 (σ.P 3 0, σ.P 3 1, (σ.P 3 2) + (nI (3 + nf + nw)), (σ.P 3 3) + 1)).sX (va_cpy σ.X σ.X k (f + us) (3 + nf + nw))).sF 5 ((σ.F 5) + 1)).sX (upd (va_cpy σ.X σ.X k (f + us) (3 + nf + nw)) k (-(nI (f + us))))).sC (upd σ.C nc (nI (f + us)))).sF 0 (nI (nc + 1)))) := hD
            refine lv_iload hx hb dNr_copyOf_144 (lv_at hl 0 rfl) ?_
            exact gx_iret (u := (((((σ.sP 3 (σ.P 3 0, σ.P 3 1, (σ.P 3 2) + (nI (3 + nf + nw)), (σ.P 3 3) + 1)).sX (va_cpy σ.X σ.X k (f + us) (3 + nf + nw))).sF 5 ((σ.F 5) + 1)).sX (upd (va_cpy σ.X σ.X k (f + us) (3 + nf + nw)) k (-(nI (f + us))))).sC (upd σ.C nc (nI (f + us)))).sF 0 (nI (nc + 1))) E hK hP hD hS ⟨rfl, rfl⟩ dNr_copyOf_146
          · exact absurd c_90 (by decide)
        · exact absurd c_50 (by decide)
      · exact absurd c_38 (fun z => (hst.elim (fun h => h (Int32.not_le.mp c_30)) (fun h => z h)))
