/-! THE CLASS, following -/
set_option maxHeartbeats 4000000 in
set_option maxRecDepth 100000 in
/-- what a root or field that tells x must tell -/
theorem qNr_follow (l : Launch) (D : va_G) (cI cP : ClassId) (a : Nat → Nat) (σ : nSt) (c0 : Nat) (x r0 : Int32) (u0 : nSt) (hF : Fol σ c0 x r0 u0) (hrw : rwI σ c0) (hN : σ.N < 2 ^ 31) : gx_Mi l yNr_follow (Cond.code yNr_follow cNr_follow 2 (some .int) :: gW) (gR 4) D gC (nrT cI cP) (nrW cI cP a) σ [.ref (a 0), .int x] (fun r u => r = r0 ∧ u = u0) := by
  refine gx_Mi.of (cc := cNr_follow) (maxL := 2) (ret := (some .int)) (by decide) rfl (Nat.le_of_ble_eq_true rfl) ?_
  intro p e s m args below meth c ls A E hA hK hP hD hS hl
  obtain ⟨hx, hb, hr, hml, hts, hown, hlocks, hnm⟩ := id E
  have hg : ∀ w ∈ gW, w.before args s = true := fun w h => hts w (List.mem_cons_of_mem _ h)
  have hown : s.vm.findClass "NurseryRow" = some m.cls := hown
  have hl : lv_has ls 2 [(0, .ref (a 0)), (1, .int x)] := hl
  rcases hF with ⟨hy, hr0, hu0⟩ | ⟨k, rfl, hkN, hy, hneg, hr0, hu0⟩ | ⟨k, nf, nw, f, us, nc, rfl, hy, hneg, hH, hage, hfree, hr0, hu0⟩ | ⟨k, nf, nw, f, us, nc, rfl, hy, hneg, hH, hst, hr0, hu0⟩
  · refine lv_aload_n hx hb dNr_follow_0 rfl (lv_at hl 0 rfl) ?_
    refine lv_iload_n hx hb dNr_follow_1 rfl (lv_at hl 1 rfl) ?_
    refine gx_callp (C := "NurseryRow") (As := [.int x]) (rest := []) E (qNr_isYoung l D cI cP a σ c0 x hrw) (gx_cwV hts l_Nr_173 k_Nr_isYoung ki_Nr_isYoung ke_Nr_isYoung z_Nr n_Nr_isYoung ⟨by decide, by decide⟩) hK hP hD (va_recv hK hP (ci := 1) (q0 := 0) rfl rfl) hl.1 rfl rfl (Nat.le_of_ble_eq_true rfl) ⟨Nat.zero_le _, Nat.zero_le _⟩ dNr_follow_2 ?_
    refine lv_if_ne (tgt := 10) hx hb dNr_follow_5 (by decide) (fun c_5 => ?_) (fun c_5 => ?_)
    · exact absurd c_5 (not_not_intro hy)
    · refine lv_iload_n hx hb dNr_follow_8 rfl (lv_at hl 1 rfl) ?_
      exact gx_iret (u := σ) E hK hP hD hS ⟨hr0.symm, hu0.symm⟩ dNr_follow_9
  · refine lv_aload_n hx hb dNr_follow_0 rfl (lv_at hl 0 rfl) ?_
    refine lv_iload_n hx hb dNr_follow_1 rfl (lv_at hl 1 rfl) ?_
    refine gx_callp (C := "NurseryRow") (As := [.int (nI k)]) (rest := []) E (qNr_isYoung l D cI cP a σ c0 (nI k) hrw) (gx_cwV hts l_Nr_173 k_Nr_isYoung ki_Nr_isYoung ke_Nr_isYoung z_Nr n_Nr_isYoung ⟨by decide, by decide⟩) hK hP hD (va_recv hK hP (ci := 1) (q0 := 0) rfl rfl) hl.1 rfl rfl (Nat.le_of_ble_eq_true rfl) ⟨Nat.zero_le _, Nat.zero_le _⟩ dNr_follow_2 ?_
    refine lv_if_ne (tgt := 10) hx hb dNr_follow_5 (by decide) (fun c_5 => ?_) (fun c_5 => ?_)
    · refine lv_aload_n hx hb dNr_follow_10 rfl (lv_at hl 0 rfl) ?_
      refine va_get (C := RNr) (T := TNr) (N := 10) (ci := 1) (v := .ref σ.hx) hx hb hg inNr hown hK hP 0 rfl rfl 3 (by decide) (hg _ f_Nr_23) (fun _ h9 => h9) rfl dNr_follow_11 ?_
      refine lv_iload_n hx hb dNr_follow_14 rfl (lv_at hl 1 rfl) ?_
      refine va_iald hx hb hK hP 8 0 rfl rfl (vp_in_nI hkN hN) dNr_follow_15 ?_
      refine gx_top (z := σ.X k) (congrArg _ (nI_clamp (show k < 2 ^ 31 by omega))) ?_
      refine lv_if_ge (tgt := 29) hx hb dNr_follow_16 (by decide) (fun c_16 => ?_) (fun c_16 => ?_)
      · exact absurd c_16 (Int32.not_le.mpr hneg)
      · refine lv_aload_n hx hb dNr_follow_19 rfl (lv_at hl 0 rfl) ?_
        refine va_get (C := RNr) (T := TNr) (N := 10) (ci := 1) (v := .ref σ.hx) hx hb hg inNr hown hK hP 0 rfl rfl 3 (by decide) (hg _ f_Nr_23) (fun _ h9 => h9) rfl dNr_follow_20 ?_
        refine lv_iload_n hx hb dNr_follow_23 rfl (lv_at hl 1 rfl) ?_
        refine va_iald hx hb hK hP 8 0 rfl rfl (vp_in_nI hkN hN) dNr_follow_24 ?_
        refine gx_top (z := σ.X k) (congrArg _ (nI_clamp (show k < 2 ^ 31 by omega))) ?_
        refine lv_ineg hx hb dNr_follow_25 ?_
        refine lv_goto (tgt := 34) hx hb dNr_follow_26 (by decide) ?_
        exact gx_iret (u := σ) E hK hP hD hS ⟨hr0.symm, hu0.symm⟩ dNr_follow_34
    · exact absurd c_5 hy
  · have hN0 := hH
    obtain ⟨hX0, hX1, hnf, hnw, hk, hPf, hPu, hb2, hnc, hF0⟩ := hH
    refine lv_aload_n hx hb dNr_follow_0 rfl (lv_at hl 0 rfl) ?_
    refine lv_iload_n hx hb dNr_follow_1 rfl (lv_at hl 1 rfl) ?_
    refine gx_callp (C := "NurseryRow") (As := [.int (nI k)]) (rest := []) E (qNr_isYoung l D cI cP a σ c0 (nI k) hrw) (gx_cwV hts l_Nr_173 k_Nr_isYoung ki_Nr_isYoung ke_Nr_isYoung z_Nr n_Nr_isYoung ⟨by decide, by decide⟩) hK hP hD (va_recv hK hP (ci := 1) (q0 := 0) rfl rfl) hl.1 rfl rfl (Nat.le_of_ble_eq_true rfl) ⟨Nat.zero_le _, Nat.zero_le _⟩ dNr_follow_2 ?_
    refine lv_if_ne (tgt := 10) hx hb dNr_follow_5 (by decide) (fun c_5 => ?_) (fun c_5 => ?_)
    · refine lv_aload_n hx hb dNr_follow_10 rfl (lv_at hl 0 rfl) ?_
      refine va_get (C := RNr) (T := TNr) (N := 10) (ci := 1) (v := .ref σ.hx) hx hb hg inNr hown hK hP 0 rfl rfl 3 (by decide) (hg _ f_Nr_23) (fun _ h9 => h9) rfl dNr_follow_11 ?_
      refine lv_iload_n hx hb dNr_follow_14 rfl (lv_at hl 1 rfl) ?_
      refine va_iald hx hb hK hP 8 0 rfl rfl (vp_in_nI (show k < σ.N by omega) hN) dNr_follow_15 ?_
      refine gx_top (z := σ.X k) (congrArg _ (nI_clamp (show k < 2 ^ 31 by omega))) ?_
      refine lv_if_ge (tgt := 29) hx hb dNr_follow_16 (by decide) (fun c_16 => ?_) (fun c_16 => ?_)
      · refine lv_aload_n hx hb dNr_follow_29 rfl (lv_at hl 0 rfl) ?_
        refine lv_iload_n hx hb dNr_follow_30 rfl (lv_at hl 1 rfl) ?_
        refine gx_calli (C := "NurseryRow") (As := [.int (nI k)]) (rest := []) E (qNr_copyOfR l D cI cP a σ (2 - c0) k nf nw f us nc hX0 hX1 hnf hnw hk hN hPf hPu hb2 hnc hF0 hrw.j hage hfree) (gx_cwV hts l_Nr_176 k_Nr_copyOf ki_Nr_copyOf ke_Nr_copyOf z_Nr n_Nr_copyOf ⟨by decide, by decide⟩) hK hP hD hS hA (va_recv hK hP (ci := 1) (q0 := 0) rfl rfl) hl.1 rfl rfl (Nat.le_of_ble_eq_true rfl) ⟨by decide, by decide⟩ dNr_follow_31 (fun r_1 u_2 H locs hq_3 hP hD hS => ?_)
        obtain ⟨hr1, hu1⟩ := hq_3
        subst hr1; subst hu1
        have hP : va_P D gC (nrW cI cP a (cpR σ (2 - c0) k (3 + nf + nw) (f + us) nc)) H := hP
        have hD : va_D A (nrW cI cP a (cpR σ (2 - c0) k (3 + nf + nw) (f + us) nc)) := hD
        exact gx_iret (u := cpR σ (2 - c0) k (3 + nf + nw) (f + us) nc) E hK hP hD hS ⟨hr0.symm, hu0.symm⟩ dNr_follow_34
      · exact absurd c_16 (not_not_intro (Int32.not_lt.mp hneg))
    · exact absurd c_5 hy
  · obtain ⟨hX0, hX1, hnf, hnw, hk, hPf, hPu, hb2, hnc, hF0⟩ := hH
    refine lv_aload_n hx hb dNr_follow_0 rfl (lv_at hl 0 rfl) ?_
    refine lv_iload_n hx hb dNr_follow_1 rfl (lv_at hl 1 rfl) ?_
    refine gx_callp (C := "NurseryRow") (As := [.int (nI k)]) (rest := []) E (qNr_isYoung l D cI cP a σ c0 (nI k) hrw) (gx_cwV hts l_Nr_173 k_Nr_isYoung ki_Nr_isYoung ke_Nr_isYoung z_Nr n_Nr_isYoung ⟨by decide, by decide⟩) hK hP hD (va_recv hK hP (ci := 1) (q0 := 0) rfl rfl) hl.1 rfl rfl (Nat.le_of_ble_eq_true rfl) ⟨Nat.zero_le _, Nat.zero_le _⟩ dNr_follow_2 ?_
    refine lv_if_ne (tgt := 10) hx hb dNr_follow_5 (by decide) (fun c_5 => ?_) (fun c_5 => ?_)
    · refine lv_aload_n hx hb dNr_follow_10 rfl (lv_at hl 0 rfl) ?_
      refine va_get (C := RNr) (T := TNr) (N := 10) (ci := 1) (v := .ref σ.hx) hx hb hg inNr hown hK hP 0 rfl rfl 3 (by decide) (hg _ f_Nr_23) (fun _ h9 => h9) rfl dNr_follow_11 ?_
      refine lv_iload_n hx hb dNr_follow_14 rfl (lv_at hl 1 rfl) ?_
      refine va_iald hx hb hK hP 8 0 rfl rfl (vp_in_nI (show k < σ.N by omega) hN) dNr_follow_15 ?_
      refine gx_top (z := σ.X k) (congrArg _ (nI_clamp (show k < 2 ^ 31 by omega))) ?_
      refine lv_if_ge (tgt := 29) hx hb dNr_follow_16 (by decide) (fun c_16 => ?_) (fun c_16 => ?_)
      · refine lv_aload_n hx hb dNr_follow_29 rfl (lv_at hl 0 rfl) ?_
        refine lv_iload_n hx hb dNr_follow_30 rfl (lv_at hl 1 rfl) ?_
        refine gx_calli (C := "NurseryRow") (As := [.int (nI k)]) (rest := []) E (qNr_copyOfO l D cI cP a σ (2 - c0) k nf nw f us nc hX0 hX1 hnf hnw hk hN hPf hPu hb2 hnc hF0 hrw.j hst) (gx_cwV hts l_Nr_176 k_Nr_copyOf ki_Nr_copyOf ke_Nr_copyOf z_Nr n_Nr_copyOf ⟨by decide, by decide⟩) hK hP hD hS hA (va_recv hK hP (ci := 1) (q0 := 0) rfl rfl) hl.1 rfl rfl (Nat.le_of_ble_eq_true rfl) ⟨by decide, by decide⟩ dNr_follow_31 (fun r_4 u_5 H locs hq_6 hP hD hS => ?_)
        obtain ⟨hr1, hu1⟩ := hq_6
        subst hr1; subst hu1
        have hP : va_P D gC (nrW cI cP a (cpO σ k (3 + nf + nw) (f + us) nc)) H := hP
        have hD : va_D A (nrW cI cP a (cpO σ k (3 + nf + nw) (f + us) nc)) := hD
        exact gx_iret (u := cpO σ k (3 + nf + nw) (f + us) nc) E hK hP hD hS ⟨hr0.symm, hu0.symm⟩ dNr_follow_34
      · exact absurd c_16 (not_not_intro (Int32.not_lt.mp hneg))
    · exact absurd c_5 hy
set_option maxHeartbeats 4000000 in
set_option maxRecDepth 100000 in
/-- an object's fields -/
theorem qNr_followFields (l : Launch) (D : va_G) (cI cP : ClassId) (a : Nat → Nat) (σ : nSt) (c0 k nf : Nat) (u0 : nSt) (hX0 : σ.X k = nI nf) (hnf : nf ≤ 200) (hk : k + 3 + nf ≤ σ.N) (hev : FolN c0 nf (k + 3) σ u0) (hrw : rwI σ c0) (hN : σ.N < 2 ^ 31) : gx_Mv l yNr_followFields (Cond.code yNr_followFields cNr_followFields 4 none :: gW) (gR 5) D gC (nrT cI cP) (nrW cI cP a) σ [.ref (a 0), .int (nI k)] (fun u => u = u0) := by
  refine gx_Mv.of (cc := cNr_followFields) (maxL := 4) (by decide) rfl (Nat.le_of_ble_eq_true rfl) ?_
  intro p e s m args below meth c ls A E hA hK hP hD hS hl
  obtain ⟨hx, hb, hr, hml, hts, hown, hlocks, hnm⟩ := id E
  have hg : ∀ w ∈ gW, w.before args s = true := fun w h => hts w (List.mem_cons_of_mem _ h)
  have hown : s.vm.findClass "NurseryRow" = some m.cls := hown
  have hl : lv_has ls 4 [(0, .ref (a 0)), (1, .int (nI k))] := hl
  refine lv_iload_n hx hb dNr_followFields_0 rfl (lv_at hl 1 rfl) ?_
  refine lv_iconst (v := 3) hx hb dNr_followFields_1 (by decide) ?_
  refine lv_iadd hx hb dNr_followFields_2 ?_
  refine gx_top (z := nI (k + 3)) (by rw [show (3 : Int32) = nI 3 from rfl, nI_add]) ?_
  refine lv_aload_n hx hb dNr_followFields_3 rfl (lv_at hl 0 rfl) ?_
  refine va_get (C := RNr) (T := TNr) (N := 10) (ci := 1) (v := .ref σ.hx) hx hb hg inNr hown hK hP 0 rfl rfl 3 (by decide) (hg _ f_Nr_23) (fun _ h9 => h9) rfl dNr_followFields_4 ?_
  refine lv_iload_n hx hb dNr_followFields_7 rfl (lv_at hl 1 rfl) ?_
  refine va_iald hx hb hK hP 8 0 rfl rfl (vp_in_nI (show k < σ.N by omega) hN) dNr_followFields_8 ?_
  refine gx_top (z := σ.X k) (congrArg _ (nI_clamp (show k < 2 ^ 31 by omega))) ?_
  refine lv_iadd hx hb dNr_followFields_9 ?_
  refine gx_top (z := nI (k + 3 + nf)) (by rw [hX0, nI_add]) ?_
  refine lv_istore_n (lv' := [(2, .int (nI (k + 3 + nf))), (0, .ref (a 0)), (1, .int (nI k))]) hx hb dNr_followFields_10 rfl hl (by decide) rfl (fun ls hl => ?_)
  refine lv_iload_n hx hb dNr_followFields_11 rfl (lv_at hl 2 rfl) ?_
  refine lv_iconst (v := 3) hx hb dNr_followFields_12 (by decide) ?_
  refine lv_iadd hx hb dNr_followFields_13 ?_
  refine gx_top (z := nI (k + 3)) (by rw [show (3 : Int32) = nI 3 from rfl, nI_add]) ?_
  refine lv_istore_n (lv' := [(3, .int (nI (k + 3))), (2, .int (nI (k + 3 + nf))), (0, .ref (a 0)), (1, .int (nI k))]) hx hb dNr_followFields_14 rfl hl (by decide) rfl (fun ls hl => ?_)
  have key : ∀ (n t : Nat) (τ : nSt) (H : Heap) (locs : List Loc) (ls : Array Slot), t + n = k + 3 + nf → FolN c0 n t τ u0 → rwI τ c0 → τ.N = σ.N → va_P D gC (nrW cI cP a τ) H → va_D A (nrW cI cP a τ) → va_S A s.heap H locs → lv_has ls 4 [(0, .ref (a 0)), (1, .int (nI k)), (2, .int (nI (k + 3 + nf))), (3, .int (nI t))] → W p l e (gR 5) s m args below meth c H locs 0 0 (MQ below (va_Qv (fun u => u = u0) (gx_B D gC (nrT cI cP) (nrW cI cP a) A) A) args s 0 0 A) (F0 m 15 ls []) := by
    intro n
    induction n with
    | zero =>
      intro t τ H locs ls hte hev hrw hNe hP hD hS hl
      have hev : u0 = τ := hev
      refine lv_iload_n hx hb dNr_followFields_15 rfl (lv_at hl 3 rfl) ?_
      refine lv_iload_n hx hb dNr_followFields_16 rfl (lv_at hl 2 rfl) ?_
      refine lv_icmp_ge (tgt := 42) hx hb dNr_followFields_17 (by decide) (fun c_17 => ?_) (fun c_17 => ?_)
      · exact gx_vret (u := τ) E hK hP hD hS hev.symm dNr_followFields_42
      · exact absurd c_17 (not_not_intro (nI_le (by omega) (by omega)))
    | succ n ih =>
      intro t τ H locs ls hte hev hrw hNe hP hD hS hl
      refine lv_iload_n hx hb dNr_followFields_15 rfl (lv_at hl 3 rfl) ?_
      refine lv_iload_n hx hb dNr_followFields_16 rfl (lv_at hl 2 rfl) ?_
      refine lv_icmp_ge (tgt := 42) hx hb dNr_followFields_17 (by decide) (fun c_17 => ?_) (fun c_17 => ?_)
      · exact absurd c_17 (nI_ge (by omega) (by omega))
      · refine lv_aload_n hx hb dNr_followFields_20 rfl (lv_at hl 0 rfl) ?_
        refine va_get (C := RNr) (T := TNr) (N := 10) (ci := 1) (v := .ref τ.hx) hx hb hg inNr hown hK hP 0 rfl rfl 3 (by decide) (hg _ f_Nr_23) (fun _ h9 => h9) rfl dNr_followFields_21 ?_
        refine lv_iload_n hx hb dNr_followFields_24 rfl (lv_at hl 3 rfl) ?_
        refine lv_aload_n hx hb dNr_followFields_25 rfl (lv_at hl 0 rfl) ?_
        refine lv_aload_n hx hb dNr_followFields_26 rfl (lv_at hl 0 rfl) ?_
        refine va_get (C := RNr) (T := TNr) (N := 10) (ci := 1) (v := .ref τ.hx) hx hb hg inNr hown hK hP 0 rfl rfl 3 (by decide) (hg _ f_Nr_23) (fun _ h9 => h9) rfl dNr_followFields_27 ?_
        refine lv_iload_n hx hb dNr_followFields_30 rfl (lv_at hl 3 rfl) ?_
        refine va_iald hx hb hK hP 8 0 rfl rfl (vp_in_nI (show t < τ.N by omega) (by omega)) dNr_followFields_31 ?_
        refine gx_top (z := τ.X t) (congrArg _ (nI_clamp (show t < 2 ^ 31 by omega))) ?_
        obtain ⟨r, v, hkN, hfo, hev⟩ := hev
        have hkp := hfo.kept
        refine gx_calli (C := "NurseryRow") (As := [.int (τ.X t)]) (rest := [.int (nI t), .ref τ.hx]) E (qNr_follow l D cI cP a τ c0 (τ.X t) r v hfo hrw (by omega)) (gx_cwV hts l_Nr_167 k_Nr_follow ki_Nr_follow ke_Nr_follow z_Nr n_Nr_follow ⟨by decide, by decide⟩) hK hP hD hS hA (va_recv hK hP (ci := 1) (q0 := 0) rfl rfl) hl.1 rfl rfl (Nat.le_of_ble_eq_true rfl) ⟨by decide, by decide⟩ dNr_followFields_32 (fun r_1 u_2 H locs hq_3 hP hD hS => ?_)
        obtain ⟨hr1, hu1⟩ := hq_3
        subst hr1; subst hu1
        refine gx_stk (st' := [.int r_1, .int (nI t), .ref u_2.hx]) (by rw [hkp.2.2.1]) ?_
        refine va_iast hx hb hK hP hD hS 8 0 rfl rfl (vp_in_nI (show t < u_2.N by rw [hkp.2.1]; exact hkN) (by omega)) dNr_followFields_35 (fun H locs hP hD hS => ?_)
        rw [nI_clamp (show t < 2 ^ 31 by omega)] at hP hD
        have hP : va_P D gC (nrW cI cP a (u_2.sX (upd u_2.X t r_1))) H := hP
        have hD : va_D A (nrW cI cP a (u_2.sX (upd u_2.X t r_1))) := hD
        refine lv_iinc (v := nI (t + 1)) (lv' := [(3, .int (nI (t + 1))), (0, .ref (a 0)), (1, .int (nI k)), (2, .int (nI (k + 3 + nf)))]) hx hb dNr_followFields_36 hl (k := 3) rfl (by rw [← nI_1]; rfl) (by decide) rfl (fun ls hl => ?_)
        refine lv_goto (tgt := 15) hx hb dNr_followFields_39 (by decide) ?_
        exact ih (t + 1) _ H locs ls (by omega) hev (hrw.of hkp.1) (hkp.2.1.trans hNe) hP hD hS (lv_sub hl [1, 2, 3, 0] rfl)
  exact key nf (k + 3) σ _ _ ls rfl hev hrw rfl hP hD hS (lv_sub hl [2, 3, 1, 0] rfl)
set_option maxHeartbeats 4000000 in
set_option maxRecDepth 100000 in
/-- the roots -/
theorem qNr_followRoots (l : Launch) (D : va_G) (cI cP : ClassId) (a : Nat → Nat) (σ : nSt) (c0 : Nat) (u0 : nSt) (hev : FolR c0 16 0 σ u0) (hrw : rwI σ c0) (hN : σ.N < 2 ^ 31) : gx_Mv l yNr_followRoots (Cond.code yNr_followRoots cNr_followRoots 2 none :: gW) (gR 5) D gC (nrT cI cP) (nrW cI cP a) σ [.ref (a 0)] (fun u => u = u0) := by
  refine gx_Mv.of (cc := cNr_followRoots) (maxL := 2) (by decide) rfl (Nat.le_of_ble_eq_true rfl) ?_
  intro p e s m args below meth c ls A E hA hK hP hD hS hl
  obtain ⟨hx, hb, hr, hml, hts, hown, hlocks, hnm⟩ := id E
  have hg : ∀ w ∈ gW, w.before args s = true := fun w h => hts w (List.mem_cons_of_mem _ h)
  have hown : s.vm.findClass "NurseryRow" = some m.cls := hown
  have hl : lv_has ls 2 [(0, .ref (a 0))] := hl
  refine lv_iconst (v := 0) hx hb dNr_followRoots_0 (by decide) ?_
  refine lv_istore_n (lv' := [(1, .int 0), (0, .ref (a 0))]) hx hb dNr_followRoots_1 rfl hl (by decide) rfl (fun ls hl => ?_)
  have key : ∀ (n t : Nat) (τ : nSt) (H : Heap) (locs : List Loc) (ls : Array Slot), t + n = 16 → FolR c0 n t τ u0 → rwI τ c0 → τ.N = σ.N → va_P D gC (nrW cI cP a τ) H → va_D A (nrW cI cP a τ) → va_S A s.heap H locs → lv_has ls 2 [(0, .ref (a 0)), (1, .int (nI t))] → W p l e (gR 5) s m args below meth c H locs 0 0 (MQ below (va_Qv (fun u => u = u0) (gx_B D gC (nrT cI cP) (nrW cI cP a) A) A) args s 0 0 A) (F0 m 2 ls []) := by
    intro n
    induction n with
    | zero =>
      intro t τ H locs ls hte hev hrw hNe hP hD hS hl
      have hev : u0 = τ := hev
      refine lv_iload_n hx hb dNr_followRoots_2 rfl (lv_at hl 1 rfl) ?_
      refine lv_bipush (v := 16) hx hb dNr_followRoots_3 (by decide) ?_
      refine lv_icmp_ge (tgt := 30) hx hb dNr_followRoots_5 (by decide) (fun c_5 => ?_) (fun c_5 => ?_)
      · exact gx_vret (u := τ) E hK hP hD hS hev.symm dNr_followRoots_30
      · exact absurd c_5 (not_not_intro (nI_le (b := t) (a := 16) (by omega) (by omega)))
    | succ n ih =>
      intro t τ H locs ls hte hev hrw hNe hP hD hS hl
      refine lv_iload_n hx hb dNr_followRoots_2 rfl (lv_at hl 1 rfl) ?_
      refine lv_bipush (v := 16) hx hb dNr_followRoots_3 (by decide) ?_
      refine lv_icmp_ge (tgt := 30) hx hb dNr_followRoots_5 (by decide) (fun c_5 => ?_) (fun c_5 => ?_)
      · exact absurd c_5 (nI_ge (b := 16) (by omega) (by omega))
      · refine lv_aload_n hx hb dNr_followRoots_8 rfl (lv_at hl 0 rfl) ?_
        refine va_get (C := RNr) (T := TNr) (N := 10) (ci := 1) (v := .ref (a 6)) hx hb hg inNr hown hK hP 0 rfl rfl 1 (by decide) (hg _ f_Nr_16) (fun _ h9 => h9) rfl dNr_followRoots_9 ?_
        refine lv_iload_n hx hb dNr_followRoots_12 rfl (lv_at hl 1 rfl) ?_
        refine lv_aload_n hx hb dNr_followRoots_13 rfl (lv_at hl 0 rfl) ?_
        refine lv_aload_n hx hb dNr_followRoots_14 rfl (lv_at hl 0 rfl) ?_
        refine va_get (C := RNr) (T := TNr) (N := 10) (ci := 1) (v := .ref (a 6)) hx hb hg inNr hown hK hP 0 rfl rfl 1 (by decide) (hg _ f_Nr_16) (fun _ h9 => h9) rfl dNr_followRoots_15 ?_
        refine lv_iload_n hx hb dNr_followRoots_18 rfl (lv_at hl 1 rfl) ?_
        refine va_iald hx hb hK hP 6 0 rfl rfl (vp_in_nI (show t < 16 by omega) (by omega)) dNr_followRoots_19 ?_
        refine gx_top (z := τ.R t) (congrArg _ (nI_clamp (show t < 2 ^ 31 by omega))) ?_
        obtain ⟨r, v, hfo, hev⟩ := hev
        have hkp := hfo.kept
        refine gx_calli (C := "NurseryRow") (As := [.int (τ.R t)]) (rest := [.int (nI t), .ref (a 6)]) E (qNr_follow l D cI cP a τ c0 (τ.R t) r v hfo hrw (by omega)) (gx_cwV hts l_Nr_167 k_Nr_follow ki_Nr_follow ke_Nr_follow z_Nr n_Nr_follow ⟨by decide, by decide⟩) hK hP hD hS hA (va_recv hK hP (ci := 1) (q0 := 0) rfl rfl) hl.1 rfl rfl (Nat.le_of_ble_eq_true rfl) ⟨by decide, by decide⟩ dNr_followRoots_20 (fun r_1 u_2 H locs hq_3 hP hD hS => ?_)
        obtain ⟨hr1, hu1⟩ := hq_3
        subst hr1; subst hu1
        refine va_iast hx hb hK hP hD hS 6 0 rfl rfl (vp_in_nI (show t < 16 by omega) (by omega)) dNr_followRoots_23 (fun H locs hP hD hS => ?_)
        rw [nI_clamp (show t < 2 ^ 31 by omega)] at hP hD
        have hP : va_P D gC (nrW cI cP a (u_2.sR (upd u_2.R t r_1))) H := hP
        have hD : va_D A (nrW cI cP a (u_2.sR (upd u_2.R t r_1))) := hD
        refine lv_iinc (v := nI (t + 1)) (lv' := [(1, .int (nI (t + 1))), (0, .ref (a 0))]) hx hb dNr_followRoots_24 hl (k := 1) rfl (by rw [← nI_1]; rfl) (by decide) rfl (fun ls hl => ?_)
        refine lv_goto (tgt := 2) hx hb dNr_followRoots_27 (by decide) ?_
        exact ih (t + 1) _ H locs ls (by omega) hev (hrw.of hkp.1) (hkp.2.1.trans hNe) hP hD hS (lv_sub hl [1, 0] rfl)
  exact key 16 0 σ _ _ ls rfl hev hrw rfl hP hD hS (lv_sub hl [1, 0] rfl)
set_option maxHeartbeats 4000000 in
set_option maxRecDepth 100000 in
/-- the old ones -/
theorem qNr_followOld (l : Launch) (D : va_G) (cI cP : ClassId) (a : Nat → Nat) (σ : nSt) (c0 n0 k0 : Nat) (u0 : nSt) (hn0 : n0 < 2 ^ 31) (hP3 : σ.P 3 0 = nI k0) (hev : FolO c0 n0 k0 σ u0) (hrw : rwI σ c0) (hN : σ.N < 2 ^ 31) : gx_Mv l yNr_followOld (Cond.code yNr_followOld cNr_followOld 4 none :: gW) (gR 6) D gC (nrT cI cP) (nrW cI cP a) σ [.ref (a 0), .int (nI n0)] (fun u => u = u0) := by
  refine gx_Mv.of (cc := cNr_followOld) (maxL := 4) (by decide) rfl (Nat.le_of_ble_eq_true rfl) ?_
  intro p e s m args below meth c ls A E hA hK hP hD hS hl
  obtain ⟨hx, hb, hr, hml, hts, hown, hlocks, hnm⟩ := id E
  have hg : ∀ w ∈ gW, w.before args s = true := fun w h => hts w (List.mem_cons_of_mem _ h)
  have hown : s.vm.findClass "NurseryRow" = some m.cls := hown
  have hl : lv_has ls 4 [(0, .ref (a 0)), (1, .int (nI n0))] := hl
  refine lv_aload_n hx hb dNr_followOld_0 rfl (lv_at hl 0 rfl) ?_
  refine va_get (C := RNr) (T := TNr) (N := 10) (ci := 1) (v := .ref (a 1)) hx hb hg inNr hown hK hP 0 rfl rfl 0 (by decide) (hg _ f_Nr_11) (fun _ h9 => h9) rfl dNr_followOld_1 ?_
  refine lv_iconst (v := 3) hx hb dNr_followOld_4 (by decide) ?_
  refine va_aldq hx hb hK hP 1 1 rfl rfl (by unfold vp_in; decide) dNr_followOld_5 ?_
  refine gx_stk (st' := [.ref (a (2 + 3))]) rfl ?_
  refine va_get (C := RPt) (T := TPt) (N := 4) (ci := 0) (v := .int (σ.P 3 0)) hx hb hg inPt hown hK hP 5 rfl rfl 0 (by decide) (hg _ f_Nr_164) (fun _ h9 => h9) rfl dNr_followOld_6 ?_
  refine gx_top (z := nI k0) hP3 ?_
  refine lv_istore_n (lv' := [(2, .int (nI k0)), (0, .ref (a 0)), (1, .int (nI n0))]) hx hb dNr_followOld_9 rfl hl (by decide) rfl (fun ls hl => ?_)
  refine lv_iconst (v := 0) hx hb dNr_followOld_10 (by decide) ?_
  refine lv_istore_n (lv' := [(3, .int 0), (2, .int (nI k0)), (0, .ref (a 0)), (1, .int (nI n0))]) hx hb dNr_followOld_11 rfl hl (by decide) rfl (fun ls hl => ?_)
  have key : ∀ (n j t : Nat) (τ : nSt) (H : Heap) (locs : List Loc) (ls : Array Slot), j + n = n0 → FolO c0 n t τ u0 → rwI τ c0 → τ.N = σ.N → va_P D gC (nrW cI cP a τ) H → va_D A (nrW cI cP a τ) → va_S A s.heap H locs → lv_has ls 4 [(0, .ref (a 0)), (1, .int (nI n0)), (2, .int (nI t)), (3, .int (nI j))] → W p l e (gR 6) s m args below meth c H locs 0 0 (MQ below (va_Qv (fun u => u = u0) (gx_B D gC (nrT cI cP) (nrW cI cP a) A) A) args s 0 0 A) (F0 m 12 ls []) := by
    intro n
    induction n with
    | zero =>
      intro j t τ H locs ls hte hev hrw hNe hP hD hS hl
      have hev : u0 = τ := hev
      refine lv_iload_n hx hb dNr_followOld_12 rfl (lv_at hl 3 rfl) ?_
      refine lv_iload_n hx hb dNr_followOld_13 rfl (lv_at hl 1 rfl) ?_
      refine lv_icmp_ge (tgt := 36) hx hb dNr_followOld_14 (by decide) (fun c_14 => ?_) (fun c_14 => ?_)
      · exact gx_vret (u := τ) E hK hP hD hS hev.symm dNr_followOld_36
      · exact absurd c_14 (not_not_intro (nI_le (by omega) (by omega)))
    | succ n ih =>
      intro j t τ H locs ls hte hev hrw hNe hP hD hS hl
      refine lv_iload_n hx hb dNr_followOld_12 rfl (lv_at hl 3 rfl) ?_
      refine lv_iload_n hx hb dNr_followOld_13 rfl (lv_at hl 1 rfl) ?_
      refine lv_icmp_ge (tgt := 36) hx hb dNr_followOld_14 (by decide) (fun c_14 => ?_) (fun c_14 => ?_)
      · exact absurd c_14 (nI_ge (by omega) (by omega))
      · refine lv_aload_n hx hb dNr_followOld_17 rfl (lv_at hl 0 rfl) ?_
        refine lv_iload_n hx hb dNr_followOld_18 rfl (lv_at hl 2 rfl) ?_
        obtain ⟨nf, nw, v, e0, hf, hw, hkN, hfo, e1, e2, hev⟩ := hev
        have hkp := hfo.kept
        have hvN := hkp.2.1
        refine gx_callv (C := "NurseryRow") (As := [.int (nI t)]) (rest := []) E (qNr_followFields l D cI cP a τ c0 t nf v e0 hf (by omega) hfo hrw (by omega)) (gx_cwV hts l_Nr_170 k_Nr_followFields ki_Nr_followFields ke_Nr_followFields z_Nr n_Nr_followFields ⟨by decide, by decide⟩) hK hP hD hS hA (va_recv hK hP (ci := 1) (q0 := 0) rfl rfl) hl.1 rfl rfl (Nat.le_of_ble_eq_true rfl) ⟨by decide, by decide⟩ dNr_followOld_19 (fun u_2 H locs hq_3 hP hD hS => ?_)
        subst hq_3
        refine lv_iload_n hx hb dNr_followOld_22 rfl (lv_at hl 2 rfl) ?_
        refine lv_aload_n hx hb dNr_followOld_23 rfl (lv_at hl 0 rfl) ?_
        refine lv_iload_n hx hb dNr_followOld_24 rfl (lv_at hl 2 rfl) ?_
        refine gx_callp (C := "NurseryRow") (As := [.int (nI t)]) (rest := [.int (nI t)]) E (qNr_sizeAt l D cI cP a u_2 t (by omega) (by omega)) (gx_cwV hts l_Nr_150 k_Nr_sizeAt ki_Nr_sizeAt ke_Nr_sizeAt z_Nr n_Nr_sizeAt ⟨by decide, by decide⟩) hK hP hD (va_recv hK hP (ci := 1) (q0 := 0) rfl rfl) hl.1 rfl rfl (Nat.le_of_ble_eq_true rfl) ⟨Nat.zero_le _, Nat.zero_le _⟩ dNr_followOld_25 ?_
        refine lv_iadd hx hb dNr_followOld_28 ?_
        refine gx_top (z := nI (t + (3 + nf + nw))) (by rw [e1, e2, show (3 : Int32) = nI 3 from rfl, nI_add, nI_add, nI_add]) ?_
        refine lv_istore_n (lv' := [(2, .int (nI (t + (3 + nf + nw)))), (0, .ref (a 0)), (1, .int (nI n0)), (3, .int (nI j))]) hx hb dNr_followOld_29 rfl hl (by decide) rfl (fun ls hl => ?_)
        refine lv_iinc (v := nI (j + 1)) (lv' := [(3, .int (nI (j + 1))), (2, .int (nI (t + (3 + nf + nw)))), (0, .ref (a 0)), (1, .int (nI n0))]) hx hb dNr_followOld_30 hl (k := 3) rfl (by rw [← nI_1]; rfl) (by decide) rfl (fun ls hl => ?_)
        refine lv_goto (tgt := 12) hx hb dNr_followOld_33 (by decide) ?_
        exact ih (j + 1) _ _ H locs ls (by omega) hev (hrw.of hkp.1) (hkp.2.1.trans hNe) hP hD hS (lv_sub hl [2, 3, 1, 0] rfl)
  exact key n0 0 k0 σ _ _ ls (Nat.zero_add _) hev hrw rfl hP hD hS (lv_sub hl [2, 3, 1, 0] rfl)
set_option maxHeartbeats 4000000 in
set_option maxRecDepth 100000 in
/-- the copies -/
theorem qNr_followCopies (l : Launch) (D : va_G) (cI cP : ClassId) (a : Nat → Nat) (σ : nSt) (c0 n0 : Nat) (u0 : nSt) (hev : FolC c0 n0 0 σ u0) (hrw : rwI σ c0) (hN : σ.N < 2 ^ 31) : gx_Mv l yNr_followCopies (Cond.code yNr_followCopies cNr_followCopies 2 none :: gW) (gR 6) D gC (nrT cI cP) (nrW cI cP a) σ [.ref (a 0)] (fun u => u = u0) := by
  refine gx_Mv.of (cc := cNr_followCopies) (maxL := 2) (by decide) rfl (Nat.le_of_ble_eq_true rfl) ?_
  intro p e s m args below meth c ls A E hA hK hP hD hS hl
  obtain ⟨hx, hb, hr, hml, hts, hown, hlocks, hnm⟩ := id E
  have hg : ∀ w ∈ gW, w.before args s = true := fun w h => hts w (List.mem_cons_of_mem _ h)
  have hown : s.vm.findClass "NurseryRow" = some m.cls := hown
  have hl : lv_has ls 2 [(0, .ref (a 0))] := hl
  refine lv_iconst (v := 0) hx hb dNr_followCopies_0 (by decide) ?_
  refine lv_istore_n (lv' := [(1, .int 0), (0, .ref (a 0))]) hx hb dNr_followCopies_1 rfl hl (by decide) rfl (fun ls hl => ?_)
  have key : ∀ (n t : Nat) (τ : nSt) (H : Heap) (locs : List Loc) (ls : Array Slot), FolC c0 n t τ u0 → rwI τ c0 → τ.N = σ.N → va_P D gC (nrW cI cP a τ) H → va_D A (nrW cI cP a τ) → va_S A s.heap H locs → lv_has ls 2 [(0, .ref (a 0)), (1, .int (nI t))] → W p l e (gR 6) s m args below meth c H locs 0 0 (MQ below (va_Qv (fun u => u = u0) (gx_B D gC (nrT cI cP) (nrW cI cP a) A) A) args s 0 0 A) (F0 m 2 ls []) := by
    intro n
    induction n with
    | zero =>
      intro t τ H locs ls hev hrw hNe hP hD hS hl
      obtain ⟨ht, hF0, hev⟩ := hev
      refine lv_iload_n hx hb dNr_followCopies_2 rfl (lv_at hl 1 rfl) ?_
      refine lv_aload_n hx hb dNr_followCopies_3 rfl (lv_at hl 0 rfl) ?_
      refine va_get (C := RNr) (T := TNr) (N := 10) (ci := 1) (v := .int (τ.F 0)) hx hb hg inNr hown hK hP 0 rfl rfl 4 (by decide) (hg _ f_Nr_123) (fun _ h9 => h9) rfl dNr_followCopies_4 ?_
      refine gx_top (z := nI t) hF0 ?_
      refine lv_icmp_ge (tgt := 35) hx hb dNr_followCopies_7 (by decide) (fun c_7 => ?_) (fun c_7 => ?_)
      · exact gx_vret (u := τ) E hK hP hD hS hev.symm dNr_followCopies_35
      · exact absurd c_7 (not_not_intro (nI_le (Nat.le_refl _) (by omega)))
    | succ n ih =>
      intro t τ H locs ls hev hrw hNe hP hD hS hl
      obtain ⟨nc, k, nf, v, hF0, htc, hnc, hCk, e0, hf, hkN, hfo, hev⟩ := hev
      have hkp := hfo.kept
      have hvN := hkp.2.1
      refine lv_iload_n hx hb dNr_followCopies_2 rfl (lv_at hl 1 rfl) ?_
      refine lv_aload_n hx hb dNr_followCopies_3 rfl (lv_at hl 0 rfl) ?_
      refine va_get (C := RNr) (T := TNr) (N := 10) (ci := 1) (v := .int (τ.F 0)) hx hb hg inNr hown hK hP 0 rfl rfl 4 (by decide) (hg _ f_Nr_123) (fun _ h9 => h9) rfl dNr_followCopies_4 ?_
      refine gx_top (z := nI nc) hF0 ?_
      refine lv_icmp_ge (tgt := 35) hx hb dNr_followCopies_7 (by decide) (fun c_7 => ?_) (fun c_7 => ?_)
      · exact absurd c_7 (nI_ge htc (by omega))
      · refine lv_iload_n hx hb dNr_followCopies_10 rfl (lv_at hl 1 rfl) ?_
        refine lv_aload_n hx hb dNr_followCopies_11 rfl (lv_at hl 0 rfl) ?_
        refine va_get (C := RNr) (T := TNr) (N := 10) (ci := 1) (v := .ref (a 7)) hx hb hg inNr hown hK hP 0 rfl rfl 2 (by decide) (hg _ f_Nr_20) (fun _ h9 => h9) rfl dNr_followCopies_12 ?_
        refine va_alen (v := 512) hx hb hK hP 7 0 rfl rfl rfl dNr_followCopies_15 ?_
        refine lv_icmp_ge (tgt := 35) hx hb dNr_followCopies_16 (by decide) (fun c_16 => ?_) (fun c_16 => ?_)
        · exact absurd c_16 (nI_ge (b := 512) (by omega) (by decide))
        · refine lv_aload_n hx hb dNr_followCopies_19 rfl (lv_at hl 0 rfl) ?_
          refine lv_aload_n hx hb dNr_followCopies_20 rfl (lv_at hl 0 rfl) ?_
          refine va_get (C := RNr) (T := TNr) (N := 10) (ci := 1) (v := .ref (a 7)) hx hb hg inNr hown hK hP 0 rfl rfl 2 (by decide) (hg _ f_Nr_20) (fun _ h9 => h9) rfl dNr_followCopies_21 ?_
          refine lv_iload_n hx hb dNr_followCopies_24 rfl (lv_at hl 1 rfl) ?_
          refine va_iald hx hb hK hP 7 0 rfl rfl (vp_in_nI (show t < 512 by omega) (by omega)) dNr_followCopies_25 ?_
          refine gx_top (z := τ.C t) (congrArg _ (nI_clamp (show t < 2 ^ 31 by omega))) ?_
          refine gx_top (z := nI k) hCk ?_
          skip
          refine gx_callv (C := "NurseryRow") (As := [.int (nI k)]) (rest := []) E (qNr_followFields l D cI cP a τ c0 k nf v e0 hf (by omega) hfo hrw (by omega)) (gx_cwV hts l_Nr_170 k_Nr_followFields ki_Nr_followFields ke_Nr_followFields z_Nr n_Nr_followFields ⟨by decide, by decide⟩) hK hP hD hS hA (va_recv hK hP (ci := 1) (q0 := 0) rfl rfl) hl.1 rfl rfl (Nat.le_of_ble_eq_true rfl) ⟨by decide, by decide⟩ dNr_followCopies_26 (fun u_2 H locs hq_3 hP hD hS => ?_)
          subst hq_3
          refine lv_iinc (v := nI (t + 1)) (lv' := [(1, .int (nI (t + 1))), (0, .ref (a 0))]) hx hb dNr_followCopies_29 hl (k := 1) rfl (by rw [← nI_1]; rfl) (by decide) rfl (fun ls hl => ?_)
          refine lv_goto (tgt := 2) hx hb dNr_followCopies_32 (by decide) ?_
          exact ih (t + 1) _ H locs ls hev (hrw.of hkp.1) (hkp.2.1.trans hNe) hP hD hS (lv_sub hl [1, 0] rfl)
  exact key n0 0 σ _ _ ls hev hrw rfl hP hD hS (lv_sub hl [1, 0] rfl)
