/-! THE PUBLIC METHODS, second half -/
set_option maxHeartbeats 4000000 in
set_option maxRecDepth 100000 in
/-- about an object -/
theorem qNr_about (l : Launch) (hfl : l.stackTraces = false) (D : va_G) (cI cP : ClassId) (a : Nat → Nat) (σ : nSt) (pp : Nat → Nat → Nat) (x w : Int32) (h : nInv σ pp) : gv_M l yNr_about (Cond.code yNr_about cNr_about 3 (some .int) :: gW) (gRc 8 1 6) D gC (nrT cI cP) (nrW cI cP a) σ [.ref (a 0), .int x, .int w] (fun r u => ¬ isOb σ.X pp x = 0 ∧ ∃ j, j ≤ 3 ∧ w = nI j ∧ r = abA σ x j ∧ u = σ) (fun E => (E = xNS ∧ isOb σ.X pp x = 0) ∨ (E = xIA ∧ ¬ isOb σ.X pp x = 0 ∧ (w.toInt < 0 ∨ 3 < w.toInt))) := by
  refine gv_M.of (cc := cNr_about) (maxL := 3) (ret := (some .int)) (by decide) rfl (Nat.le_of_ble_eq_true rfl) ?_
  intro p e s m args below meth c ls A E hex hZ hT hA hK hP hD hS hl
  obtain ⟨hx, hb, hr, hml, hts, hown, hlocks, hnm⟩ := id E
  have hg : ∀ w ∈ gW, w.before args s = true := fun w h => hts w (List.mem_cons_of_mem _ h)
  have hown : s.vm.findClass "NurseryRow" = some m.cls := hown
  have hl : lv_has ls 3 [(0, .ref (a 0)), (1, .int x), (2, .int w)] := hl
  refine lv_aload_n hx hb dNr_about_0 rfl (lv_at hl 0 rfl) ?_
  refine lv_iload_n hx hb dNr_about_1 rfl (lv_at hl 1 rfl) ?_
  refine gx_callp (C := "NurseryRow") (As := [.int x]) (rest := []) E (qNr_isObject l D cI cP a σ pp x h) (gx_cwV hts l_Nr_139 k_Nr_isObject ki_Nr_isObject ke_Nr_isObject z_Nr n_Nr_isObject ⟨by decide, by decide⟩) hK hP hD (va_recv hK hP (ci := 1) (q0 := 0) rfl rfl) hl.1 rfl rfl (Nat.le_of_ble_eq_true rfl) ⟨Nat.zero_le _, Nat.zero_le _⟩ dNr_about_2 ?_
  refine lv_if_ne (tgt := 18) hx hb dNr_about_5 (by decide) (fun c_5 => ?_) (fun c_5 => ?_)
  · obtain ⟨k, nf, nw, hxk, hk1, hkN, hnf, hnw, e0, e1⟩ := isOb_ad h c_5
    have hN : σ.N < 2 ^ 31 := by have := h.2.2.2.2.2.2.2; omega
    refine lv_iload_n hx hb dNr_about_18 rfl (lv_at hl 2 rfl) ?_
    rcases tsw w 3 (by decide) with ht | ⟨jw, hjw, hxw⟩
    · refine lv_tableOut (tgt := 79) hx hb dNr_about_19 ht (by decide) ?_
      exact gv_throw (X := xIA) (tx := "nothing of that kind is told") (is := 145) (ix := 7) (rx := rxIA) E rfl hfl hex hZ hT hK hP hD hS hl.1 rIA0 rIA1 rIA2 rIA5 (by decide) kl_Nr_38 z_IllegalArgumentException (by decide) gx_IA gy_IA go_IA (Or.inr ⟨rfl, c_5, ht⟩) (by decide) (by decide) (by decide) (by decide) (by decide) (by decide) dNr_about_79 dNr_about_82 dNr_about_83 dNr_about_85 dNr_about_88
    · rcases (show jw = 0 ∨ jw = 1 ∨ jw = 2 ∨ jw = 3 by omega) with rfl | rfl | rfl | rfl
      · refine gx_top (z := 0) hxw ?_
        refine lv_tableIn (tgt := 48) hx hb dNr_about_19 (by decide) (by decide) rfl (by decide) ?_
        refine lv_aload_n hx hb dNr_about_48 rfl (lv_at hl 0 rfl) ?_
        refine va_get (C := RNr) (T := TNr) (N := 10) (ci := 1) (v := .ref σ.hx) hx hb hg inNr hown hK hP 0 rfl rfl 3 (by decide) (hg _ f_Nr_23) (fun _ h9 => h9) rfl dNr_about_49 ?_
        refine lv_iload_n hx hb dNr_about_52 rfl (lv_at hl 1 rfl) ?_
        refine lv_iconst (v := 2) hx hb dNr_about_53 (by decide) ?_
        refine lv_iadd hx hb dNr_about_54 ?_
        refine va_iald hx hb hK hP 8 0 rfl rfl (by rw [hxk, show (2 : Int32) = nI 2 from rfl, nI_add]; exact vp_in_nI (by omega) hN) dNr_about_55 ?_
        refine gx_top (z := σ.X (x.toNatClampNeg + 2)) (by rw [hxk, show (2 : Int32) = nI 2 from rfl, nI_add, nI_clamp (by omega), nI_clamp (by omega)]) ?_
        exact vx_ret (W.widen (k := 1) (n := 6) (by decide) (by decide) (gx_iret (u := σ) E hK hP hD hS ⟨c_5, 0, by decide, hxw, rfl, rfl⟩ dNr_about_56))
      · refine gx_top (z := 1) hxw ?_
        refine lv_tableIn (tgt := 57) hx hb dNr_about_19 (by decide) (by decide) rfl (by decide) ?_
        refine lv_aload_n hx hb dNr_about_57 rfl (lv_at hl 0 rfl) ?_
        refine va_get (C := RNr) (T := TNr) (N := 10) (ci := 1) (v := .ref σ.hx) hx hb hg inNr hown hK hP 0 rfl rfl 3 (by decide) (hg _ f_Nr_23) (fun _ h9 => h9) rfl dNr_about_58 ?_
        refine lv_iload_n hx hb dNr_about_61 rfl (lv_at hl 1 rfl) ?_
        refine va_iald hx hb hK hP 8 0 rfl rfl (by rw [hxk]; exact vp_in_nI (by omega) hN) dNr_about_62 ?_
        exact vx_ret (W.widen (k := 1) (n := 6) (by decide) (by decide) (gx_iret (u := σ) E hK hP hD hS ⟨c_5, 1, by decide, hxw, rfl, rfl⟩ dNr_about_63))
      · refine gx_top (z := 2) hxw ?_
        refine lv_tableIn (tgt := 64) hx hb dNr_about_19 (by decide) (by decide) rfl (by decide) ?_
        refine lv_aload_n hx hb dNr_about_64 rfl (lv_at hl 0 rfl) ?_
        refine va_get (C := RNr) (T := TNr) (N := 10) (ci := 1) (v := .ref σ.hx) hx hb hg inNr hown hK hP 0 rfl rfl 3 (by decide) (hg _ f_Nr_23) (fun _ h9 => h9) rfl dNr_about_65 ?_
        refine lv_iload_n hx hb dNr_about_68 rfl (lv_at hl 1 rfl) ?_
        refine lv_iconst (v := 1) hx hb dNr_about_69 (by decide) ?_
        refine lv_iadd hx hb dNr_about_70 ?_
        refine va_iald hx hb hK hP 8 0 rfl rfl (by rw [hxk, show (1 : Int32) = nI 1 from rfl, nI_add]; exact vp_in_nI (by omega) hN) dNr_about_71 ?_
        refine gx_top (z := σ.X (x.toNatClampNeg + 1)) (by rw [hxk, show (1 : Int32) = nI 1 from rfl, nI_add, nI_clamp (by omega), nI_clamp (by omega)]) ?_
        exact vx_ret (W.widen (k := 1) (n := 6) (by decide) (by decide) (gx_iret (u := σ) E hK hP hD hS ⟨c_5, 2, by decide, hxw, rfl, rfl⟩ dNr_about_72))
      · refine gx_top (z := 3) hxw ?_
        refine lv_tableIn (tgt := 73) hx hb dNr_about_19 (by decide) (by decide) rfl (by decide) ?_
        refine lv_aload_n hx hb dNr_about_73 rfl (lv_at hl 0 rfl) ?_
        refine lv_iload_n hx hb dNr_about_74 rfl (lv_at hl 1 rfl) ?_
        refine gx_callp (C := "NurseryRow") (As := [.int x]) (rest := []) E (qNr_partOf l D cI cP a σ x) (gx_cwV hts l_Nr_142 k_Nr_partOf ki_Nr_partOf ke_Nr_partOf z_Nr n_Nr_partOf ⟨by decide, by decide⟩) hK hP hD (va_recv hK hP (ci := 1) (q0 := 0) rfl rfl) hl.1 rfl rfl (Nat.le_of_ble_eq_true rfl) ⟨Nat.zero_le _, Nat.zero_le _⟩ dNr_about_75 ?_
        exact vx_ret (W.widen (k := 1) (n := 6) (by decide) (by decide) (gx_iret (u := σ) E hK hP hD hS ⟨c_5, 3, by decide, hxw, rfl, rfl⟩ dNr_about_78))
  · exact gv_throw (X := xNS) (tx := "no such object") (is := 72) (ix := 13) (rx := rxNS) E rfl hfl hex hZ hT hK hP hD hS hl.1 rNS0 rNS1 rNS2 rNS5 (by decide) kl_Nr_92 z_NoSuchElementException (by decide) gx_NS gy_NS go_NS (Or.inl ⟨rfl, c_5⟩) (by decide) (by decide) (by decide) (by decide) (by decide) (by decide) dNr_about_8 dNr_about_11 dNr_about_12 dNr_about_14 dNr_about_17
set_option maxHeartbeats 4000000 in
set_option maxRecDepth 100000 in
/-- counts -/
theorem qNr_count (l : Launch) (hfl : l.stackTraces = false) (D : va_G) (cI cP : ClassId) (a : Nat → Nat) (σ : nSt) (c0 : Nat) (w : Int32) (hrw : rwI σ c0) : gv_M l yNr_count (Cond.code yNr_count cNr_count 2 (some .int) :: gW) (gRc 8 1 6) D gC (nrT cI cP) (nrW cI cP a) σ [.ref (a 0), .int w] (fun r u => ∃ j, j ≤ 9 ∧ w = nI j ∧ r = cnA σ c0 j ∧ u = σ) (fun E => E = xIA ∧ (w.toInt < 0 ∨ 9 < w.toInt)) := by
  refine gv_M.of (cc := cNr_count) (maxL := 2) (ret := (some .int)) (by decide) rfl (Nat.le_of_ble_eq_true rfl) ?_
  intro p e s m args below meth c ls A E hex hZ hT hA hK hP hD hS hl
  obtain ⟨hx, hb, hr, hml, hts, hown, hlocks, hnm⟩ := id E
  have hg : ∀ w ∈ gW, w.before args s = true := fun w h => hts w (List.mem_cons_of_mem _ h)
  have hown : s.vm.findClass "NurseryRow" = some m.cls := hown
  have hl : lv_has ls 2 [(0, .ref (a 0)), (1, .int w)] := hl
  rcases hrw with ⟨hrw, rfl⟩ | ⟨hrw, rfl⟩
  · refine lv_iload_n hx hb dNr_count_0 rfl (lv_at hl 1 rfl) ?_
    rcases tsw w 9 (by decide) with ht | ⟨jw, hjw, hxw⟩
    · refine lv_tableOut (tgt := 146) hx hb dNr_count_1 ht (by decide) ?_
      exact gv_throw (X := xIA) (tx := "nothing of that kind is counted") (is := 156) (ix := 7) (rx := rxIA) E rfl hfl hex hZ hT hK hP hD hS hl.1 rIA0 rIA1 rIA2 rIA5 (by decide) kl_Nr_38 z_IllegalArgumentException (by decide) gx_IA gy_IA go_IA ⟨rfl, ht⟩ (by decide) (by decide) (by decide) (by decide) (by decide) (by decide) dNr_count_146 dNr_count_149 dNr_count_150 dNr_count_152 dNr_count_155
    · rcases (show jw = 0 ∨ jw = 1 ∨ jw = 2 ∨ jw = 3 ∨ jw = 4 ∨ jw = 5 ∨ jw = 6 ∨ jw = 7 ∨ jw = 8 ∨ jw = 9 by omega) with rfl | rfl | rfl | rfl | rfl | rfl | rfl | rfl | rfl | rfl
      · refine gx_top (z := 0) hxw ?_
        refine lv_tableIn (tgt := 56) hx hb dNr_count_1 (by decide) (by decide) rfl (by decide) ?_
        refine lv_aload_n hx hb dNr_count_56 rfl (lv_at hl 0 rfl) ?_
        refine va_get (C := RNr) (T := TNr) (N := 10) (ci := 1) (v := .ref (a 1)) hx hb hg inNr hown hK hP 0 rfl rfl 0 (by decide) (hg _ f_Nr_11) (fun _ h9 => h9) rfl dNr_count_57 ?_
        refine lv_iconst (v := 0) hx hb dNr_count_60 (by decide) ?_
        refine va_aldq hx hb hK hP 1 1 rfl rfl (by unfold vp_in; decide) dNr_count_61 ?_
        refine gx_stk (st' := [.ref (a (2 + 0))]) rfl ?_
        refine va_get (C := RPt) (T := TPt) (N := 4) (ci := 0) (v := .int (σ.P 0 3)) hx hb hg inPt hown hK hP 2 rfl rfl 3 (by decide) (hg _ f_Nr_120) (fun _ h9 => h9) rfl dNr_count_62 ?_
        exact vx_ret (W.widen (k := 1) (n := 6) (by decide) (by decide) (gx_iret (u := σ) E hK hP hD hS ⟨0, by decide, hxw, rfl, rfl⟩ dNr_count_65))
      · refine gx_top (z := 1) hxw ?_
        refine lv_tableIn (tgt := 66) hx hb dNr_count_1 (by decide) (by decide) rfl (by decide) ?_
        refine lv_aload_n hx hb dNr_count_66 rfl (lv_at hl 0 rfl) ?_
        refine va_get (C := RNr) (T := TNr) (N := 10) (ci := 1) (v := .ref (a 1)) hx hb hg inNr hown hK hP 0 rfl rfl 0 (by decide) (hg _ f_Nr_11) (fun _ h9 => h9) rfl dNr_count_67 ?_
        refine lv_iconst (v := 1) hx hb dNr_count_70 (by decide) ?_
        refine lv_aload_n hx hb dNr_count_71 rfl (lv_at hl 0 rfl) ?_
        refine va_get (C := RNr) (T := TNr) (N := 10) (ci := 1) (v := .int (σ.F 2)) hx hb hg inNr hown hK hP 0 rfl rfl 6 (by decide) (hg _ f_Nr_58) (fun _ h9 => h9) rfl dNr_count_72 ?_
        refine gx_top (z := 0) hrw ?_
        refine lv_iadd hx hb dNr_count_75 ?_
        refine gx_top (z := 1) (by decide) ?_
        refine va_aldq hx hb hK hP 1 1 rfl rfl (by unfold vp_in; decide) dNr_count_76 ?_
        refine gx_stk (st' := [.ref (a (2 + 1))]) rfl ?_
        refine va_get (C := RPt) (T := TPt) (N := 4) (ci := 0) (v := .int (σ.P 1 3)) hx hb hg inPt hown hK hP 3 rfl rfl 3 (by decide) (hg _ f_Nr_120) (fun _ h9 => h9) rfl dNr_count_77 ?_
        exact vx_ret (W.widen (k := 1) (n := 6) (by decide) (by decide) (gx_iret (u := σ) E hK hP hD hS ⟨1, by decide, hxw, rfl, rfl⟩ dNr_count_80))
      · refine gx_top (z := 2) hxw ?_
        refine lv_tableIn (tgt := 81) hx hb dNr_count_1 (by decide) (by decide) rfl (by decide) ?_
        refine lv_aload_n hx hb dNr_count_81 rfl (lv_at hl 0 rfl) ?_
        refine va_get (C := RNr) (T := TNr) (N := 10) (ci := 1) (v := .ref (a 1)) hx hb hg inNr hown hK hP 0 rfl rfl 0 (by decide) (hg _ f_Nr_11) (fun _ h9 => h9) rfl dNr_count_82 ?_
        refine lv_iconst (v := 3) hx hb dNr_count_85 (by decide) ?_
        refine va_aldq hx hb hK hP 1 1 rfl rfl (by unfold vp_in; decide) dNr_count_86 ?_
        refine gx_stk (st' := [.ref (a (2 + 3))]) rfl ?_
        refine va_get (C := RPt) (T := TPt) (N := 4) (ci := 0) (v := .int (σ.P 3 3)) hx hb hg inPt hown hK hP 5 rfl rfl 3 (by decide) (hg _ f_Nr_120) (fun _ h9 => h9) rfl dNr_count_87 ?_
        exact vx_ret (W.widen (k := 1) (n := 6) (by decide) (by decide) (gx_iret (u := σ) E hK hP hD hS ⟨2, by decide, hxw, rfl, rfl⟩ dNr_count_90))
      · refine gx_top (z := 3) hxw ?_
        refine lv_tableIn (tgt := 91) hx hb dNr_count_1 (by decide) (by decide) rfl (by decide) ?_
        refine lv_aload_n hx hb dNr_count_91 rfl (lv_at hl 0 rfl) ?_
        refine va_get (C := RNr) (T := TNr) (N := 10) (ci := 1) (v := .ref (a 1)) hx hb hg inNr hown hK hP 0 rfl rfl 0 (by decide) (hg _ f_Nr_11) (fun _ h9 => h9) rfl dNr_count_92 ?_
        refine lv_iconst (v := 0) hx hb dNr_count_95 (by decide) ?_
        refine va_aldq hx hb hK hP 1 1 rfl rfl (by unfold vp_in; decide) dNr_count_96 ?_
        refine gx_stk (st' := [.ref (a (2 + 0))]) rfl ?_
        refine va_get (C := RPt) (T := TPt) (N := 4) (ci := 0) (v := .int (σ.P 0 2)) hx hb hg inPt hown hK hP 2 rfl rfl 2 (by decide) (hg _ f_Nr_112) (fun _ h9 => h9) rfl dNr_count_97 ?_
        exact vx_ret (W.widen (k := 1) (n := 6) (by decide) (by decide) (gx_iret (u := σ) E hK hP hD hS ⟨3, by decide, hxw, rfl, rfl⟩ dNr_count_100))
      · refine gx_top (z := 4) hxw ?_
        refine lv_tableIn (tgt := 101) hx hb dNr_count_1 (by decide) (by decide) rfl (by decide) ?_
        refine lv_aload_n hx hb dNr_count_101 rfl (lv_at hl 0 rfl) ?_
        refine va_get (C := RNr) (T := TNr) (N := 10) (ci := 1) (v := .ref (a 1)) hx hb hg inNr hown hK hP 0 rfl rfl 0 (by decide) (hg _ f_Nr_11) (fun _ h9 => h9) rfl dNr_count_102 ?_
        refine lv_iconst (v := 1) hx hb dNr_count_105 (by decide) ?_
        refine lv_aload_n hx hb dNr_count_106 rfl (lv_at hl 0 rfl) ?_
        refine va_get (C := RNr) (T := TNr) (N := 10) (ci := 1) (v := .int (σ.F 2)) hx hb hg inNr hown hK hP 0 rfl rfl 6 (by decide) (hg _ f_Nr_58) (fun _ h9 => h9) rfl dNr_count_107 ?_
        refine gx_top (z := 0) hrw ?_
        refine lv_iadd hx hb dNr_count_110 ?_
        refine gx_top (z := 1) (by decide) ?_
        refine va_aldq hx hb hK hP 1 1 rfl rfl (by unfold vp_in; decide) dNr_count_111 ?_
        refine gx_stk (st' := [.ref (a (2 + 1))]) rfl ?_
        refine va_get (C := RPt) (T := TPt) (N := 4) (ci := 0) (v := .int (σ.P 1 2)) hx hb hg inPt hown hK hP 3 rfl rfl 2 (by decide) (hg _ f_Nr_112) (fun _ h9 => h9) rfl dNr_count_112 ?_
        exact vx_ret (W.widen (k := 1) (n := 6) (by decide) (by decide) (gx_iret (u := σ) E hK hP hD hS ⟨4, by decide, hxw, rfl, rfl⟩ dNr_count_115))
      · refine gx_top (z := 5) hxw ?_
        refine lv_tableIn (tgt := 116) hx hb dNr_count_1 (by decide) (by decide) rfl (by decide) ?_
        refine lv_aload_n hx hb dNr_count_116 rfl (lv_at hl 0 rfl) ?_
        refine va_get (C := RNr) (T := TNr) (N := 10) (ci := 1) (v := .ref (a 1)) hx hb hg inNr hown hK hP 0 rfl rfl 0 (by decide) (hg _ f_Nr_11) (fun _ h9 => h9) rfl dNr_count_117 ?_
        refine lv_iconst (v := 3) hx hb dNr_count_120 (by decide) ?_
        refine va_aldq hx hb hK hP 1 1 rfl rfl (by unfold vp_in; decide) dNr_count_121 ?_
        refine gx_stk (st' := [.ref (a (2 + 3))]) rfl ?_
        refine va_get (C := RPt) (T := TPt) (N := 4) (ci := 0) (v := .int (σ.P 3 2)) hx hb hg inPt hown hK hP 5 rfl rfl 2 (by decide) (hg _ f_Nr_112) (fun _ h9 => h9) rfl dNr_count_122 ?_
        exact vx_ret (W.widen (k := 1) (n := 6) (by decide) (by decide) (gx_iret (u := σ) E hK hP hD hS ⟨5, by decide, hxw, rfl, rfl⟩ dNr_count_125))
      · refine gx_top (z := 6) hxw ?_
        refine lv_tableIn (tgt := 126) hx hb dNr_count_1 (by decide) (by decide) rfl (by decide) ?_
        refine lv_aload_n hx hb dNr_count_126 rfl (lv_at hl 0 rfl) ?_
        refine va_get (C := RNr) (T := TNr) (N := 10) (ci := 1) (v := .int (σ.F 3)) hx hb hg inNr hown hK hP 0 rfl rfl 7 (by decide) (hg _ f_Nr_61) (fun _ h9 => h9) rfl dNr_count_127 ?_
        exact vx_ret (W.widen (k := 1) (n := 6) (by decide) (by decide) (gx_iret (u := σ) E hK hP hD hS ⟨6, by decide, hxw, rfl, rfl⟩ dNr_count_130))
      · refine gx_top (z := 7) hxw ?_
        refine lv_tableIn (tgt := 131) hx hb dNr_count_1 (by decide) (by decide) rfl (by decide) ?_
        refine lv_aload_n hx hb dNr_count_131 rfl (lv_at hl 0 rfl) ?_
        refine va_get (C := RNr) (T := TNr) (N := 10) (ci := 1) (v := .int (σ.F 4)) hx hb hg inNr hown hK hP 0 rfl rfl 8 (by decide) (hg _ f_Nr_64) (fun _ h9 => h9) rfl dNr_count_132 ?_
        exact vx_ret (W.widen (k := 1) (n := 6) (by decide) (by decide) (gx_iret (u := σ) E hK hP hD hS ⟨7, by decide, hxw, rfl, rfl⟩ dNr_count_135))
      · refine gx_top (z := 8) hxw ?_
        refine lv_tableIn (tgt := 136) hx hb dNr_count_1 (by decide) (by decide) rfl (by decide) ?_
        refine lv_aload_n hx hb dNr_count_136 rfl (lv_at hl 0 rfl) ?_
        refine va_get (C := RNr) (T := TNr) (N := 10) (ci := 1) (v := .int (σ.F 5)) hx hb hg inNr hown hK hP 0 rfl rfl 9 (by decide) (hg _ f_Nr_67) (fun _ h9 => h9) rfl dNr_count_137 ?_
        exact vx_ret (W.widen (k := 1) (n := 6) (by decide) (by decide) (gx_iret (u := σ) E hK hP hD hS ⟨8, by decide, hxw, rfl, rfl⟩ dNr_count_140))
      · refine gx_top (z := 9) hxw ?_
        refine lv_tableIn (tgt := 141) hx hb dNr_count_1 (by decide) (by decide) rfl (by decide) ?_
        refine lv_aload_n hx hb dNr_count_141 rfl (lv_at hl 0 rfl) ?_
        refine va_get (C := RNr) (T := TNr) (N := 10) (ci := 1) (v := .int (σ.F 2)) hx hb hg inNr hown hK hP 0 rfl rfl 6 (by decide) (hg _ f_Nr_58) (fun _ h9 => h9) rfl dNr_count_142 ?_
        exact vx_ret (W.widen (k := 1) (n := 6) (by decide) (by decide) (gx_iret (u := σ) E hK hP hD hS ⟨9, by decide, hxw, rfl, rfl⟩ dNr_count_145))
  · refine lv_iload_n hx hb dNr_count_0 rfl (lv_at hl 1 rfl) ?_
    rcases tsw w 9 (by decide) with ht | ⟨jw, hjw, hxw⟩
    · refine lv_tableOut (tgt := 146) hx hb dNr_count_1 ht (by decide) ?_
      exact gv_throw (X := xIA) (tx := "nothing of that kind is counted") (is := 156) (ix := 7) (rx := rxIA) E rfl hfl hex hZ hT hK hP hD hS hl.1 rIA0 rIA1 rIA2 rIA5 (by decide) kl_Nr_38 z_IllegalArgumentException (by decide) gx_IA gy_IA go_IA ⟨rfl, ht⟩ (by decide) (by decide) (by decide) (by decide) (by decide) (by decide) dNr_count_146 dNr_count_149 dNr_count_150 dNr_count_152 dNr_count_155
    · rcases (show jw = 0 ∨ jw = 1 ∨ jw = 2 ∨ jw = 3 ∨ jw = 4 ∨ jw = 5 ∨ jw = 6 ∨ jw = 7 ∨ jw = 8 ∨ jw = 9 by omega) with rfl | rfl | rfl | rfl | rfl | rfl | rfl | rfl | rfl | rfl
      · refine gx_top (z := 0) hxw ?_
        refine lv_tableIn (tgt := 56) hx hb dNr_count_1 (by decide) (by decide) rfl (by decide) ?_
        refine lv_aload_n hx hb dNr_count_56 rfl (lv_at hl 0 rfl) ?_
        refine va_get (C := RNr) (T := TNr) (N := 10) (ci := 1) (v := .ref (a 1)) hx hb hg inNr hown hK hP 0 rfl rfl 0 (by decide) (hg _ f_Nr_11) (fun _ h9 => h9) rfl dNr_count_57 ?_
        refine lv_iconst (v := 0) hx hb dNr_count_60 (by decide) ?_
        refine va_aldq hx hb hK hP 1 1 rfl rfl (by unfold vp_in; decide) dNr_count_61 ?_
        refine gx_stk (st' := [.ref (a (2 + 0))]) rfl ?_
        refine va_get (C := RPt) (T := TPt) (N := 4) (ci := 0) (v := .int (σ.P 0 3)) hx hb hg inPt hown hK hP 2 rfl rfl 3 (by decide) (hg _ f_Nr_120) (fun _ h9 => h9) rfl dNr_count_62 ?_
        exact vx_ret (W.widen (k := 1) (n := 6) (by decide) (by decide) (gx_iret (u := σ) E hK hP hD hS ⟨0, by decide, hxw, rfl, rfl⟩ dNr_count_65))
      · refine gx_top (z := 1) hxw ?_
        refine lv_tableIn (tgt := 66) hx hb dNr_count_1 (by decide) (by decide) rfl (by decide) ?_
        refine lv_aload_n hx hb dNr_count_66 rfl (lv_at hl 0 rfl) ?_
        refine va_get (C := RNr) (T := TNr) (N := 10) (ci := 1) (v := .ref (a 1)) hx hb hg inNr hown hK hP 0 rfl rfl 0 (by decide) (hg _ f_Nr_11) (fun _ h9 => h9) rfl dNr_count_67 ?_
        refine lv_iconst (v := 1) hx hb dNr_count_70 (by decide) ?_
        refine lv_aload_n hx hb dNr_count_71 rfl (lv_at hl 0 rfl) ?_
        refine va_get (C := RNr) (T := TNr) (N := 10) (ci := 1) (v := .int (σ.F 2)) hx hb hg inNr hown hK hP 0 rfl rfl 6 (by decide) (hg _ f_Nr_58) (fun _ h9 => h9) rfl dNr_count_72 ?_
        refine gx_top (z := 1) hrw ?_
        refine lv_iadd hx hb dNr_count_75 ?_
        refine gx_top (z := 2) (by decide) ?_
        refine va_aldq hx hb hK hP 1 1 rfl rfl (by unfold vp_in; decide) dNr_count_76 ?_
        refine gx_stk (st' := [.ref (a (2 + 2))]) rfl ?_
        refine va_get (C := RPt) (T := TPt) (N := 4) (ci := 0) (v := .int (σ.P 2 3)) hx hb hg inPt hown hK hP 4 rfl rfl 3 (by decide) (hg _ f_Nr_120) (fun _ h9 => h9) rfl dNr_count_77 ?_
        exact vx_ret (W.widen (k := 1) (n := 6) (by decide) (by decide) (gx_iret (u := σ) E hK hP hD hS ⟨1, by decide, hxw, rfl, rfl⟩ dNr_count_80))
      · refine gx_top (z := 2) hxw ?_
        refine lv_tableIn (tgt := 81) hx hb dNr_count_1 (by decide) (by decide) rfl (by decide) ?_
        refine lv_aload_n hx hb dNr_count_81 rfl (lv_at hl 0 rfl) ?_
        refine va_get (C := RNr) (T := TNr) (N := 10) (ci := 1) (v := .ref (a 1)) hx hb hg inNr hown hK hP 0 rfl rfl 0 (by decide) (hg _ f_Nr_11) (fun _ h9 => h9) rfl dNr_count_82 ?_
        refine lv_iconst (v := 3) hx hb dNr_count_85 (by decide) ?_
        refine va_aldq hx hb hK hP 1 1 rfl rfl (by unfold vp_in; decide) dNr_count_86 ?_
        refine gx_stk (st' := [.ref (a (2 + 3))]) rfl ?_
        refine va_get (C := RPt) (T := TPt) (N := 4) (ci := 0) (v := .int (σ.P 3 3)) hx hb hg inPt hown hK hP 5 rfl rfl 3 (by decide) (hg _ f_Nr_120) (fun _ h9 => h9) rfl dNr_count_87 ?_
        exact vx_ret (W.widen (k := 1) (n := 6) (by decide) (by decide) (gx_iret (u := σ) E hK hP hD hS ⟨2, by decide, hxw, rfl, rfl⟩ dNr_count_90))
      · refine gx_top (z := 3) hxw ?_
        refine lv_tableIn (tgt := 91) hx hb dNr_count_1 (by decide) (by decide) rfl (by decide) ?_
        refine lv_aload_n hx hb dNr_count_91 rfl (lv_at hl 0 rfl) ?_
        refine va_get (C := RNr) (T := TNr) (N := 10) (ci := 1) (v := .ref (a 1)) hx hb hg inNr hown hK hP 0 rfl rfl 0 (by decide) (hg _ f_Nr_11) (fun _ h9 => h9) rfl dNr_count_92 ?_
        refine lv_iconst (v := 0) hx hb dNr_count_95 (by decide) ?_
        refine va_aldq hx hb hK hP 1 1 rfl rfl (by unfold vp_in; decide) dNr_count_96 ?_
        refine gx_stk (st' := [.ref (a (2 + 0))]) rfl ?_
        refine va_get (C := RPt) (T := TPt) (N := 4) (ci := 0) (v := .int (σ.P 0 2)) hx hb hg inPt hown hK hP 2 rfl rfl 2 (by decide) (hg _ f_Nr_112) (fun _ h9 => h9) rfl dNr_count_97 ?_
        exact vx_ret (W.widen (k := 1) (n := 6) (by decide) (by decide) (gx_iret (u := σ) E hK hP hD hS ⟨3, by decide, hxw, rfl, rfl⟩ dNr_count_100))
      · refine gx_top (z := 4) hxw ?_
        refine lv_tableIn (tgt := 101) hx hb dNr_count_1 (by decide) (by decide) rfl (by decide) ?_
        refine lv_aload_n hx hb dNr_count_101 rfl (lv_at hl 0 rfl) ?_
        refine va_get (C := RNr) (T := TNr) (N := 10) (ci := 1) (v := .ref (a 1)) hx hb hg inNr hown hK hP 0 rfl rfl 0 (by decide) (hg _ f_Nr_11) (fun _ h9 => h9) rfl dNr_count_102 ?_
        refine lv_iconst (v := 1) hx hb dNr_count_105 (by decide) ?_
        refine lv_aload_n hx hb dNr_count_106 rfl (lv_at hl 0 rfl) ?_
        refine va_get (C := RNr) (T := TNr) (N := 10) (ci := 1) (v := .int (σ.F 2)) hx hb hg inNr hown hK hP 0 rfl rfl 6 (by decide) (hg _ f_Nr_58) (fun _ h9 => h9) rfl dNr_count_107 ?_
        refine gx_top (z := 1) hrw ?_
        refine lv_iadd hx hb dNr_count_110 ?_
        refine gx_top (z := 2) (by decide) ?_
        refine va_aldq hx hb hK hP 1 1 rfl rfl (by unfold vp_in; decide) dNr_count_111 ?_
        refine gx_stk (st' := [.ref (a (2 + 2))]) rfl ?_
        refine va_get (C := RPt) (T := TPt) (N := 4) (ci := 0) (v := .int (σ.P 2 2)) hx hb hg inPt hown hK hP 4 rfl rfl 2 (by decide) (hg _ f_Nr_112) (fun _ h9 => h9) rfl dNr_count_112 ?_
        exact vx_ret (W.widen (k := 1) (n := 6) (by decide) (by decide) (gx_iret (u := σ) E hK hP hD hS ⟨4, by decide, hxw, rfl, rfl⟩ dNr_count_115))
      · refine gx_top (z := 5) hxw ?_
        refine lv_tableIn (tgt := 116) hx hb dNr_count_1 (by decide) (by decide) rfl (by decide) ?_
        refine lv_aload_n hx hb dNr_count_116 rfl (lv_at hl 0 rfl) ?_
        refine va_get (C := RNr) (T := TNr) (N := 10) (ci := 1) (v := .ref (a 1)) hx hb hg inNr hown hK hP 0 rfl rfl 0 (by decide) (hg _ f_Nr_11) (fun _ h9 => h9) rfl dNr_count_117 ?_
        refine lv_iconst (v := 3) hx hb dNr_count_120 (by decide) ?_
        refine va_aldq hx hb hK hP 1 1 rfl rfl (by unfold vp_in; decide) dNr_count_121 ?_
        refine gx_stk (st' := [.ref (a (2 + 3))]) rfl ?_
        refine va_get (C := RPt) (T := TPt) (N := 4) (ci := 0) (v := .int (σ.P 3 2)) hx hb hg inPt hown hK hP 5 rfl rfl 2 (by decide) (hg _ f_Nr_112) (fun _ h9 => h9) rfl dNr_count_122 ?_
        exact vx_ret (W.widen (k := 1) (n := 6) (by decide) (by decide) (gx_iret (u := σ) E hK hP hD hS ⟨5, by decide, hxw, rfl, rfl⟩ dNr_count_125))
      · refine gx_top (z := 6) hxw ?_
        refine lv_tableIn (tgt := 126) hx hb dNr_count_1 (by decide) (by decide) rfl (by decide) ?_
        refine lv_aload_n hx hb dNr_count_126 rfl (lv_at hl 0 rfl) ?_
        refine va_get (C := RNr) (T := TNr) (N := 10) (ci := 1) (v := .int (σ.F 3)) hx hb hg inNr hown hK hP 0 rfl rfl 7 (by decide) (hg _ f_Nr_61) (fun _ h9 => h9) rfl dNr_count_127 ?_
        exact vx_ret (W.widen (k := 1) (n := 6) (by decide) (by decide) (gx_iret (u := σ) E hK hP hD hS ⟨6, by decide, hxw, rfl, rfl⟩ dNr_count_130))
      · refine gx_top (z := 7) hxw ?_
        refine lv_tableIn (tgt := 131) hx hb dNr_count_1 (by decide) (by decide) rfl (by decide) ?_
        refine lv_aload_n hx hb dNr_count_131 rfl (lv_at hl 0 rfl) ?_
        refine va_get (C := RNr) (T := TNr) (N := 10) (ci := 1) (v := .int (σ.F 4)) hx hb hg inNr hown hK hP 0 rfl rfl 8 (by decide) (hg _ f_Nr_64) (fun _ h9 => h9) rfl dNr_count_132 ?_
        exact vx_ret (W.widen (k := 1) (n := 6) (by decide) (by decide) (gx_iret (u := σ) E hK hP hD hS ⟨7, by decide, hxw, rfl, rfl⟩ dNr_count_135))
      · refine gx_top (z := 8) hxw ?_
        refine lv_tableIn (tgt := 136) hx hb dNr_count_1 (by decide) (by decide) rfl (by decide) ?_
        refine lv_aload_n hx hb dNr_count_136 rfl (lv_at hl 0 rfl) ?_
        refine va_get (C := RNr) (T := TNr) (N := 10) (ci := 1) (v := .int (σ.F 5)) hx hb hg inNr hown hK hP 0 rfl rfl 9 (by decide) (hg _ f_Nr_67) (fun _ h9 => h9) rfl dNr_count_137 ?_
        exact vx_ret (W.widen (k := 1) (n := 6) (by decide) (by decide) (gx_iret (u := σ) E hK hP hD hS ⟨8, by decide, hxw, rfl, rfl⟩ dNr_count_140))
      · refine gx_top (z := 9) hxw ?_
        refine lv_tableIn (tgt := 141) hx hb dNr_count_1 (by decide) (by decide) rfl (by decide) ?_
        refine lv_aload_n hx hb dNr_count_141 rfl (lv_at hl 0 rfl) ?_
        refine va_get (C := RNr) (T := TNr) (N := 10) (ci := 1) (v := .int (σ.F 2)) hx hb hg inNr hown hK hP 0 rfl rfl 6 (by decide) (hg _ f_Nr_58) (fun _ h9 => h9) rfl dNr_count_142 ?_
        exact vx_ret (W.widen (k := 1) (n := 6) (by decide) (by decide) (gx_iret (u := σ) E hK hP hD hS ⟨9, by decide, hxw, rfl, rfl⟩ dNr_count_145))
set_option maxHeartbeats 4000000 in
set_option maxRecDepth 100000 in
/-- the object behind -/
theorem qNr_next (l : Launch) (hfl : l.stackTraces = false) (D : va_G) (cI cP : ClassId) (a : Nat → Nat) (σ : nSt) (pp : Nat → Nat → Nat) (x : Int32) (h : nInv σ pp) : gv_M l yNr_next (Cond.code yNr_next cNr_next 4 (some .int) :: gW) (gRc 8 1 6) D gC (nrT cI cP) (nrW cI cP a) σ [.ref (a 0), .int x] (fun r u => (x = 0 ∧ r = fF σ 0 ∧ u = σ) ∨ (¬ x = 0 ∧ ∃ i t, i < 4 ∧ t < pp i 3 ∧ x = nI (ch σ.X (pp i 0) t) ∧ u = σ ∧ ((¬ ptCov (σ.P i 0) (σ.P i 2) (nI (ch σ.X (pp i 0) (t + 1))) = 0 ∧ r = nI (ch σ.X (pp i 0) (t + 1))) ∨ (ptCov (σ.P i 0) (σ.P i 2) (nI (ch σ.X (pp i 0) (t + 1))) = 0 ∧ r = fF σ (i + 1))))) (fun E => E = xNS ∧ ¬ x = 0 ∧ isOb σ.X pp x = 0) := by
  refine gv_M.of (cc := cNr_next) (maxL := 4) (ret := (some .int)) (by decide) rfl (Nat.le_of_ble_eq_true rfl) ?_
  intro p e s m args below meth c ls A E hex hZ hT hA hK hP hD hS hl
  obtain ⟨hx, hb, hr, hml, hts, hown, hlocks, hnm⟩ := id E
  have hg : ∀ w ∈ gW, w.before args s = true := fun w h => hts w (List.mem_cons_of_mem _ h)
  have hown : s.vm.findClass "NurseryRow" = some m.cls := hown
  have hl : lv_has ls 4 [(0, .ref (a 0)), (1, .int x)] := hl
  refine lv_iload_n hx hb dNr_next_0 rfl (lv_at hl 1 rfl) ?_
  refine lv_if_ne (tgt := 10) hx hb dNr_next_1 (by decide) (fun c_1 => ?_) (fun c_1 => ?_)
  · refine lv_aload_n hx hb dNr_next_10 rfl (lv_at hl 0 rfl) ?_
    refine lv_iload_n hx hb dNr_next_11 rfl (lv_at hl 1 rfl) ?_
    refine gx_callp (C := "NurseryRow") (As := [.int x]) (rest := []) E (qNr_isObject l D cI cP a σ pp x h) (gx_cwV hts l_Nr_139 k_Nr_isObject ki_Nr_isObject ke_Nr_isObject z_Nr n_Nr_isObject ⟨by decide, by decide⟩) hK hP hD (va_recv hK hP (ci := 1) (q0 := 0) rfl rfl) hl.1 rfl rfl (Nat.le_of_ble_eq_true rfl) ⟨Nat.zero_le _, Nat.zero_le _⟩ dNr_next_12 ?_
    refine lv_if_ne (tgt := 28) hx hb dNr_next_15 (by decide) (fun c_15 => ?_) (fun c_15 => ?_)
    · obtain ⟨i, hi, t, htt, hxk⟩ := isOb_ne c_15
      have hLi := h.2.1 i hi
      have hin := hLi.in htt
      have hen := h.end hi
      obtain ⟨nf, nw, hf, hw, e0, e1, e2⟩ := hLi.sz htt
      have hN : σ.N < 2 ^ 31 := by omega
      have hpo := pOf_at h hi htt
      refine lv_aload_n hx hb dNr_next_28 rfl (lv_at hl 0 rfl) ?_
      refine lv_iload_n hx hb dNr_next_29 rfl (lv_at hl 1 rfl) ?_
      refine gx_callp (C := "NurseryRow") (As := [.int x]) (rest := []) E (qNr_partOf l D cI cP a σ x) (gx_cwV hts l_Nr_142 k_Nr_partOf ki_Nr_partOf ke_Nr_partOf z_Nr n_Nr_partOf ⟨by decide, by decide⟩) hK hP hD (va_recv hK hP (ci := 1) (q0 := 0) rfl rfl) hl.1 rfl rfl (Nat.le_of_ble_eq_true rfl) ⟨Nat.zero_le _, Nat.zero_le _⟩ dNr_next_30 ?_
      refine gx_top (z := nI i) (by rw [hxk]; exact hpo) ?_
      refine lv_istore_n (lv' := [(2, .int (nI i)), (0, .ref (a 0)), (1, .int x)]) hx hb dNr_next_33 rfl hl (by decide) rfl (fun ls hl => ?_)
      refine lv_iload_n hx hb dNr_next_34 rfl (lv_at hl 2 rfl) ?_
      refine lv_aload_n hx hb dNr_next_35 rfl (lv_at hl 1 rfl) ?_
      refine lv_iload_n hx hb dNr_next_36 rfl (lv_at hl 2 rfl) ?_
      refine gx_stk (st' := [.int (nI (ch σ.X (pp i 0) t)), .ref (a 0), .int x]) (by rw [hxk]) ?_
      refine gx_callp (C := "NurseryRow") (As := [.int (nI (ch σ.X (pp i 0) t))]) (rest := [.int x]) E (qNr_sizeAt l D cI cP a σ (ch σ.X (pp i 0) t) (by omega) hN) (gx_cwV hts l_Nr_150 k_Nr_sizeAt ki_Nr_sizeAt ke_Nr_sizeAt z_Nr n_Nr_sizeAt ⟨by decide, by decide⟩) hK hP hD (va_recv hK hP (ci := 1) (q0 := 0) rfl rfl) hl.1 rfl rfl (Nat.le_of_ble_eq_true rfl) ⟨Nat.zero_le _, Nat.zero_le _⟩ dNr_next_37 ?_
      refine lv_iadd hx hb dNr_next_40 ?_
      refine gx_top (z := nI (ch σ.X (pp i 0) (t + 1))) (by rw [hxk, e0, e1, show (3 : Int32) = nI 3 from rfl, nI_add, nI_add, nI_add]; simp only [ch, e2]) ?_
      refine lv_istore_n (lv' := [(3, .int (nI (ch σ.X (pp i 0) (t + 1)))), (2, .int (nI i)), (0, .ref (a 0)), (1, .int x)]) hx hb dNr_next_41 rfl hl (by decide) rfl (fun ls hl => ?_)
      refine lv_aload_n hx hb dNr_next_42 rfl (lv_at hl 2 rfl) ?_
      refine va_get (C := RNr) (T := TNr) (N := 10) (ci := 1) (v := .ref (a 1)) hx hb hg inNr hown hK hP 0 rfl rfl 0 (by decide) (hg _ f_Nr_11) (fun _ h9 => h9) rfl dNr_next_43 ?_
      refine lv_iload_n hx hb dNr_next_46 rfl (lv_at hl 1 rfl) ?_
      refine va_aldq hx hb hK hP 1 1 rfl rfl (vp_in_nI hi (by omega)) dNr_next_47 ?_
      refine gx_stk (st' := [.ref (a (2 + i))]) (by rw [nI_clamp (by omega)]; rfl) ?_
      refine lv_iload_n hx hb dNr_next_48 rfl (lv_at hl 0 rfl) ?_
      refine gx_callp (C := "NurseryRow$Part") (As := [.int (nI (ch σ.X (pp i 0) (t + 1)))]) (rest := []) E (nr_liftp (i := i) hi (qPt_covers l D _ (a (2 + i)) (σ.p i) (nI (ch σ.X (pp i 0) (t + 1))))) (gx_cwV hts l_Nr_153 k_Pt_covers ki_Pt_covers ke_Pt_covers z_Pt n_Pt_covers ⟨by decide, by decide⟩) hK hP hD (va_recv hK hP (ci := 0) (q0 := (2 + i)) rfl (nr_pl cI cP a σ hi)) hl.1 rfl rfl (Nat.le_of_ble_eq_true rfl) ⟨Nat.zero_le _, Nat.zero_le _⟩ dNr_next_49 ?_
      refine gx_top (z := ptCov (σ.P i 0) (σ.P i 2) (nI (ch σ.X (pp i 0) (t + 1)))) rfl ?_
      refine lv_if_eq (tgt := 59) hx hb dNr_next_52 (by decide) (fun c_52 => ?_) (fun c_52 => ?_)
      · refine lv_aload_n hx hb dNr_next_59 rfl (lv_at hl 2 rfl) ?_
        refine lv_iload_n hx hb dNr_next_60 rfl (lv_at hl 1 rfl) ?_
        refine lv_iconst (v := 1) hx hb dNr_next_61 (by decide) ?_
        refine lv_iadd hx hb dNr_next_62 ?_
        refine gx_stk (st' := [.int (nI (i + 1)), .ref (a 0)]) (by rw [nI_1]) ?_
        refine gx_callp (C := "NurseryRow") (As := [.int (nI (i + 1))]) (rest := []) E (qNr_firstFrom l D cI cP a σ (i + 1) (by omega)) (gx_cwV hts l_Nr_147 k_Nr_firstFrom ki_Nr_firstFrom ke_Nr_firstFrom z_Nr n_Nr_firstFrom ⟨by decide, by decide⟩) hK hP hD (va_recv hK hP (ci := 1) (q0 := 0) rfl rfl) hl.1 rfl rfl (Nat.le_of_ble_eq_true rfl) ⟨Nat.zero_le _, Nat.zero_le _⟩ dNr_next_63 ?_
        exact vx_ret (W.widen (k := 1) (n := 6) (by decide) (by decide) (gx_iret (u := σ) E hK hP hD hS (Or.inr ⟨c_1, i, t, hi, htt, hxk, rfl, Or.inr ⟨c_52, rfl⟩⟩) dNr_next_66))
      · refine lv_iload_n hx hb dNr_next_55 rfl (lv_at hl 0 rfl) ?_
        refine lv_goto (tgt := 66) hx hb dNr_next_56 (by decide) ?_
        exact vx_ret (W.widen (k := 1) (n := 6) (by decide) (by decide) (gx_iret (u := σ) E hK hP hD hS (Or.inr ⟨c_1, i, t, hi, htt, hxk, rfl, Or.inl ⟨c_52, rfl⟩⟩) dNr_next_66))
    · exact gv_throw (X := xNS) (tx := "no such object") (is := 72) (ix := 13) (rx := rxNS) E rfl hfl hex hZ hT hK hP hD hS hl.1 rNS0 rNS1 rNS2 rNS5 (by decide) kl_Nr_92 z_NoSuchElementException (by decide) gx_NS gy_NS go_NS ⟨rfl, c_1, c_15⟩ (by decide) (by decide) (by decide) (by decide) (by decide) (by decide) dNr_next_18 dNr_next_21 dNr_next_22 dNr_next_24 dNr_next_27
  · refine lv_aload_n hx hb dNr_next_4 rfl (lv_at hl 0 rfl) ?_
    refine lv_iconst (v := 0) hx hb dNr_next_5 (by decide) ?_
    refine gx_callp (C := "NurseryRow") (As := [.int 0]) (rest := []) E (qNr_firstFrom l D cI cP a σ 0 (by decide)) (gx_cwV hts l_Nr_147 k_Nr_firstFrom ki_Nr_firstFrom ke_Nr_firstFrom z_Nr n_Nr_firstFrom ⟨by decide, by decide⟩) hK hP hD (va_recv hK hP (ci := 1) (q0 := 0) rfl rfl) hl.1 rfl rfl (Nat.le_of_ble_eq_true rfl) ⟨Nat.zero_le _, Nat.zero_le _⟩ dNr_next_6 ?_
    exact vx_ret (W.widen (k := 1) (n := 6) (by decide) (by decide) (gx_iret (u := σ) E hK hP hD hS (Or.inl ⟨c_1, rfl, rfl⟩) dNr_next_9))
set_option maxHeartbeats 4000000 in
set_option maxRecDepth 100000 in
/-- a new object -/
theorem qNr_make (l : Launch) (hfl : l.stackTraces = false) (D : va_G) (cI cP : ClassId) (a : Nat → Nat) (σ : nSt) (x y : Int32) (f0 cs us : Nat) (hP0 : σ.P 0 0 = nI f0) (hP1 : σ.P 0 1 = nI cs) (hP2 : σ.P 0 2 = nI us) (hus : us ≤ cs) (hN : f0 + cs ≤ σ.N) (hN2 : σ.N ≤ 10241) : gv_M l yNr_make (Cond.code yNr_make cNr_make 5 (some .int) :: gW) (gRc 8 1 6) D gC (nrT cI cP) (nrW cI cP a) σ [.ref (a 0), .int x, .int y] (fun r u => (¬ isW x 0 200 = 0 ∧ ¬ isW y 0 200 = 0) ∧ ∃ nf nw, x = nI nf ∧ y = nI nw ∧ nf ≤ 200 ∧ nw ≤ 200 ∧ ((cs - us < 3 + nf + nw ∧ r = 0 ∧ u = σ) ∨ (3 + nf + nw ≤ cs - us ∧ r = nI (f0 + us) ∧ u = mkS σ x y (3 + nf + nw) (f0 + us)))) (fun E => E = xIA ∧ (isW x 0 200 = 0 ∨ isW y 0 200 = 0)) := by
  refine gv_M.of (cc := cNr_make) (maxL := 5) (ret := (some .int)) (by decide) rfl (Nat.le_of_ble_eq_true rfl) ?_
  intro p e s m args below meth c ls A E hex hZ hT hA hK hP hD hS hl
  obtain ⟨hx, hb, hr, hml, hts, hown, hlocks, hnm⟩ := id E
  have hg : ∀ w ∈ gW, w.before args s = true := fun w h => hts w (List.mem_cons_of_mem _ h)
  have hown : s.vm.findClass "NurseryRow" = some m.cls := hown
  have hl : lv_has ls 5 [(0, .ref (a 0)), (1, .int x), (2, .int y)] := hl
  refine lv_iload_n hx hb dNr_make_0 rfl (lv_at hl 1 rfl) ?_
  refine lv_iconst (v := 0) hx hb dNr_make_1 (by decide) ?_
  refine lv_sipush (v := 200) hx hb dNr_make_2 (by decide) ?_
  refine gx_callps (As := [.int x, .int 0, .int 200]) (rest := []) E (qNr_isWithin l D _ _ x 0 200) (gx_cwS hts l_Nr_34 k_Nr_isWithin kt_Nr_isWithin z_Nr n_Nr_isWithin ⟨by decide, by decide⟩) hK hP hD hl.1 rfl rfl (Nat.le_of_ble_eq_true rfl) ⟨Nat.zero_le _, Nat.zero_le _⟩ dNr_make_5 ?_
  refine lv_if_eq (tgt := 22) hx hb dNr_make_8 (by decide) (fun c_8 => ?_) (fun c_8 => ?_)
  · exact gv_throw (X := xIA) (tx := "no such object") (is := 72) (ix := 7) (rx := rxIA) E rfl hfl hex hZ hT hK hP hD hS hl.1 rIA0 rIA1 rIA2 rIA5 (by decide) kl_Nr_38 z_IllegalArgumentException (by decide) gx_IA gy_IA go_IA ⟨rfl, Or.inl c_8⟩ (by decide) (by decide) (by decide) (by decide) (by decide) (by decide) dNr_make_22 dNr_make_25 dNr_make_26 dNr_make_28 dNr_make_31
  · refine lv_iload_n hx hb dNr_make_11 rfl (lv_at hl 2 rfl) ?_
    refine lv_iconst (v := 0) hx hb dNr_make_12 (by decide) ?_
    refine lv_sipush (v := 200) hx hb dNr_make_13 (by decide) ?_
    refine gx_callps (As := [.int y, .int 0, .int 200]) (rest := []) E (qNr_isWithin l D _ _ y 0 200) (gx_cwS hts l_Nr_34 k_Nr_isWithin kt_Nr_isWithin z_Nr n_Nr_isWithin ⟨by decide, by decide⟩) hK hP hD hl.1 rfl rfl (Nat.le_of_ble_eq_true rfl) ⟨Nat.zero_le _, Nat.zero_le _⟩ dNr_make_16 ?_
    refine lv_if_ne (tgt := 32) hx hb dNr_make_19 (by decide) (fun c_19 => ?_) (fun c_19 => ?_)
    · obtain ⟨nf, hxn, -, hnf⟩ := isW_ne c_8 (show (0 : Int32) = nI 0 from rfl) (show (200 : Int32) = nI 200 from rfl) (by decide) (by decide)
      obtain ⟨nw, hyn, -, hnw⟩ := isW_ne c_19 (show (0 : Int32) = nI 0 from rfl) (show (200 : Int32) = nI 200 from rfl) (by decide) (by decide)
      refine lv_iconst (v := 3) hx hb dNr_make_32 (by decide) ?_
      refine lv_iload_n hx hb dNr_make_33 rfl (lv_at hl 1 rfl) ?_
      refine lv_iadd hx hb dNr_make_34 ?_
      refine lv_iload_n hx hb dNr_make_35 rfl (lv_at hl 2 rfl) ?_
      refine lv_iadd hx hb dNr_make_36 ?_
      refine gx_top (z := nI (3 + nf + nw)) (by rw [hxn, hyn, show (3 : Int32) = nI 3 from rfl, nI_add, nI_add]) ?_
      refine lv_istore_n (lv' := [(3, .int (nI (3 + nf + nw))), (0, .ref (a 0)), (1, .int x), (2, .int y)]) hx hb dNr_make_37 rfl hl (by decide) rfl (fun ls hl => ?_)
      refine lv_aload_n hx hb dNr_make_38 rfl (lv_at hl 1 rfl) ?_
      refine va_get (C := RNr) (T := TNr) (N := 10) (ci := 1) (v := .ref (a 1)) hx hb hg inNr hown hK hP 0 rfl rfl 0 (by decide) (hg _ f_Nr_11) (fun _ h9 => h9) rfl dNr_make_39 ?_
      refine lv_iconst (v := 0) hx hb dNr_make_42 (by decide) ?_
      refine va_aldq hx hb hK hP 1 1 rfl rfl (by unfold vp_in; decide) dNr_make_43 ?_
      refine gx_stk (st' := [.ref (a (2 + 0))]) rfl ?_
      refine gx_callp (C := "NurseryRow$Part") (As := []) (rest := []) E (nr_liftp (i := 0) (by decide) (qPt_free l D _ (a (2 + 0)) (σ.p 0))) (gx_cwV hts l_Nr_74 k_Pt_free ki_Pt_free ke_Pt_free z_Pt n_Pt_free ⟨by decide, by decide⟩) hK hP hD (va_recv hK hP (ci := 0) (q0 := 2) rfl rfl) hl.1 rfl rfl (Nat.le_of_ble_eq_true rfl) ⟨Nat.zero_le _, Nat.zero_le _⟩ dNr_make_44 ?_
      refine gx_top (z := (σ.P 0 1) - (σ.P 0 2)) rfl ?_
      refine lv_iload_n hx hb dNr_make_47 rfl (lv_at hl 0 rfl) ?_
      refine lv_icmp_ge (tgt := 53) hx hb dNr_make_48 (by decide) (fun c_48 => ?_) (fun c_48 => ?_)
      · have hfit : 3 + nf + nw ≤ cs - us := Nat.not_lt.mp fun z => by rw [hP1, hP2, pk_sub hus] at c_48; exact nI_ge z (by omega) c_48
        refine lv_aload_n hx hb dNr_make_53 rfl (lv_at hl 1 rfl) ?_
        refine va_get (C := RNr) (T := TNr) (N := 10) (ci := 1) (v := .ref (a 1)) hx hb hg inNr hown hK hP 0 rfl rfl 0 (by decide) (hg _ f_Nr_11) (fun _ h9 => h9) rfl dNr_make_54 ?_
        refine lv_iconst (v := 0) hx hb dNr_make_57 (by decide) ?_
        refine va_aldq hx hb hK hP 1 1 rfl rfl (by unfold vp_in; decide) dNr_make_58 ?_
        refine gx_stk (st' := [.ref (a (2 + 0))]) rfl ?_
        refine lv_iload_n hx hb dNr_make_59 rfl (lv_at hl 0 rfl) ?_
        refine gx_calli (C := "NurseryRow$Part") (As := [.int (nI (3 + nf + nw))]) (rest := []) E (nr_lifti (i := 0) (by decide) (qPt_take l D _ (a (2 + 0)) (σ.p 0) (nI (3 + nf + nw)))) (gx_cwV hts l_Nr_77 k_Pt_take ki_Pt_take ke_Pt_take z_Pt n_Pt_take ⟨by decide, by decide⟩) hK hP hD hS hA (va_recv hK hP (ci := 0) (q0 := 2) rfl rfl) hl.1 rfl rfl (Nat.le_of_ble_eq_true rfl) ⟨by decide, by decide⟩ dNr_make_60 (fun r_1 u_2 H locs hq_3 hP hD hS => ?_)
        obtain ⟨v, ⟨hr1, hv⟩, hu⟩ := hq_3
        subst hu; subst hv
        have hr1 : r_1 = (σ.P 0 0) + (σ.P 0 2) := hr1
        subst hr1
        have hP : va_P D gC (nrW cI cP a (σ.sP 0 (σ.P 0 0, σ.P 0 1, (σ.P 0 2) + (nI (3 + nf + nw)), (σ.P 0 3) + 1))) H := hP
        have hD : va_D A (nrW cI cP a (σ.sP 0 (σ.P 0 0, σ.P 0 1, (σ.P 0 2) + (nI (3 + nf + nw)), (σ.P 0 3) + 1))) := hD
        refine gx_top (z := nI (f0 + us)) (by rw [hP0, hP2, nI_add]) ?_
        refine lv_istore (lv' := [(4, .int (nI (f0 + us))), (3, .int (nI (3 + nf + nw))), (0, .ref (a 0)), (1, .int x), (2, .int y)]) hx hb dNr_make_63 hl (by decide) rfl (fun ls hl => ?_)
        refine lv_aload_n hx hb dNr_make_65 rfl (lv_at hl 2 rfl) ?_
        refine va_get (C := RNr) (T := TNr) (N := 10) (ci := 1) (v := .ref σ.hx) hx hb hg inNr hown hK hP 0 rfl rfl 3 (by decide) (hg _ f_Nr_23) (fun _ h9 => h9) rfl dNr_make_66 ?_
        refine lv_iload hx hb dNr_make_69 (lv_at hl 0 rfl) ?_
        refine lv_iload hx hb dNr_make_71 (lv_at hl 0 rfl) ?_
        refine lv_iload_n hx hb dNr_make_73 rfl (lv_at hl 1 rfl) ?_
        refine lv_iadd hx hb dNr_make_74 ?_
        refine lv_iconst (v := 0) hx hb dNr_make_75 (by decide) ?_
        refine gx_stk (st' := [.int 0, .int (nI (f0 + us + (3 + nf + nw))), .int (nI (f0 + us)), .ref (σ.sP 0 (σ.P 0 0, σ.P 0 1, (σ.P 0 2) + (nI (3 + nf + nw)), (σ.P 0 3) + 1)).hx]) (by rw [nI_add]; rfl) ?_
        refine gx_callvs (As := [.ref (σ.sP 0 (σ.P 0 0, σ.P 0 1, (σ.P 0 2) + (nI (3 + nf + nw)), (σ.P 0 3) + 1)).hx, .int (nI (f0 + us)), .int (nI (f0 + us + (3 + nf + nw))), .int 0]) (rest := []) E (nr_fillX 0 (f0 + us) (f0 + us + (3 + nf + nw)) (by omega) (show _ ≤ σ.N by omega) (show σ.N < _ by omega)) (gx_cwS hts l_Nr_81 k_Ar_fill4 kt_Ar_fill4 z_Ar n_Ar_fill4 ⟨by decide, by decide⟩) hK hP hD hS hA hl.1 rfl rfl (by decide) ⟨by decide, by decide⟩ dNr_make_76 (fun u_4 H locs hq_5 hP hD hS => ?_)
        subst hq_5
        have hP : va_P D gC (nrW cI cP a ((σ.sP 0 (σ.P 0 0, σ.P 0 1, (σ.P 0 2) + (nI (3 + nf + nw)), (σ.P 0 3) + 1)).sX (fillF σ.X (f0 + us) (f0 + us + (3 + nf + nw)) 0))) H := hP
        have hD : va_D A (nrW cI cP a ((σ.sP 0 (σ.P 0 0, σ.P 0 1, (σ.P 0 2) + (nI (3 + nf + nw)), (σ.P 0 3) + 1)).sX (fillF σ.X (f0 + us) (f0 + us + (3 + nf + nw)) 0))) := hD
        refine lv_aload_n hx hb dNr_make_79 rfl (lv_at hl 2 rfl) ?_
        refine va_get (C := RNr) (T := TNr) (N := 10) (ci := 1) (v := .ref σ.hx) hx hb hg inNr hown hK hP 0 rfl rfl 3 (by decide) (hg _ f_Nr_23) (fun _ h9 => h9) rfl dNr_make_80 ?_
        refine lv_iload hx hb dNr_make_83 (lv_at hl 0 rfl) ?_
        refine lv_iload_n hx hb dNr_make_85 rfl (lv_at hl 3 rfl) ?_
        refine va_iast hx hb hK hP hD hS 8 0 rfl rfl (vp_in_nI (show f0 + us < σ.N by omega) (show σ.N < 2 ^ 31 by omega)) dNr_make_86 (fun H locs hP hD hS => ?_)
        rw [nI_clamp (show f0 + us < 2 ^ 31 by omega)] at hP hD
        have hP : va_P D gC (nrW cI cP a (((σ.sP 0 (σ.P 0 0, σ.P 0 1, (σ.P 0 2) + (nI (3 + nf + nw)), (σ.P 0 3) + 1)).sX (fillF σ.X (f0 + us) (f0 + us + (3 + nf + nw)) 0)).sX (upd (fillF σ.X (f0 + us) (f0 + us + (3 + nf + nw)) 0) (f0 + us) x))) H := hP
        have hD : va_D A (nrW cI cP a (((σ.sP 0 (σ.P 0 0, σ.P 0 1, (σ.P 0 2) + (nI (3 + nf + nw)), (σ.P 0 3) + 1)).sX (fillF σ.X (f0 + us) (f0 + us + (3 + nf + nw)) 0)).sX (upd (fillF σ.X (f0 + us) (f0 + us + (3 + nf + nw)) 0) (f0 + us) x))) := hD
        refine lv_aload_n hx hb dNr_make_87 rfl (lv_at hl 2 rfl) ?_
        refine va_get (C := RNr) (T := TNr) (N := 10) (ci := 1) (v := .ref σ.hx) hx hb hg inNr hown hK hP 0 rfl rfl 3 (by decide) (hg _ f_Nr_23) (fun _ h9 => h9) rfl dNr_make_88 ?_
        refine lv_iload hx hb dNr_make_91 (lv_at hl 0 rfl) ?_
        refine lv_iconst (v := 1) hx hb dNr_make_93 (by decide) ?_
        refine lv_iadd hx hb dNr_make_94 ?_
        refine gx_top (z := nI (f0 + us + 1)) (nI_1 _) ?_
        refine lv_iload_n hx hb dNr_make_95 rfl (lv_at hl 4 rfl) ?_
        refine va_iast hx hb hK hP hD hS 8 0 rfl rfl (vp_in_nI (show f0 + us + 1 < σ.N by omega) (show σ.N < 2 ^ 31 by omega)) dNr_make_96 (fun H locs hP hD hS => ?_)
        rw [nI_clamp (show f0 + us + 1 < 2 ^ 31 by omega)] at hP hD
        have hP : va_P D gC (nrW cI cP a ((((σ.sP 0 (σ.P 0 0, σ.P 0 1, (σ.P 0 2) + (nI (3 + nf + nw)), (σ.P 0 3) + 1)).sX (fillF σ.X (f0 + us) (f0 + us + (3 + nf + nw)) 0)).sX (upd (fillF σ.X (f0 + us) (f0 + us + (3 + nf + nw)) 0) (f0 + us) x)).sX (upd (upd (fillF σ.X (f0 + us) (f0 + us + (3 + nf + nw)) 0) (f0 + us) x) (f0 + us + 1) y))) H := hP
        have hD : va_D A (nrW cI cP a ((((σ.sP 0 (σ.P 0 0, σ.P 0 1, (σ.P 0 2) + (nI (3 + nf + nw)), (σ.P 0 3) + 1)).sX (fillF σ.X (f0 + us) (f0 + us + (3 + nf + nw)) 0)).sX (upd (fillF σ.X (f0 + us) (f0 + us + (3 + nf + nw)) 0) (f0 + us) x)).sX (upd (upd (fillF σ.X (f0 + us) (f0 + us + (3 + nf + nw)) 0) (f0 + us) x) (f0 + us + 1) y))) := hD
        refine lv_iload hx hb dNr_make_97 (lv_at hl 0 rfl) ?_
        exact vx_ret (W.widen (k := 1) (n := 6) (by decide) (by decide) (gx_iret (u := (((σ.sP 0 (σ.P 0 0, σ.P 0 1, (σ.P 0 2) + (nI (3 + nf + nw)), (σ.P 0 3) + 1)).sX (fillF σ.X (f0 + us) (f0 + us + (3 + nf + nw)) 0)).sX (upd (fillF σ.X (f0 + us) (f0 + us + (3 + nf + nw)) 0) (f0 + us) x)).sX (upd (upd (fillF σ.X (f0 + us) (f0 + us + (3 + nf + nw)) 0) (f0 + us) x) (f0 + us + 1) y)) E hK hP hD hS ⟨⟨c_8, c_19⟩, nf, nw, hxn, hyn, hnf, hnw, Or.inr ⟨hfit, rfl, rfl⟩⟩ dNr_make_99))
      · refine lv_iconst (v := 0) hx hb dNr_make_51 (by decide) ?_
        exact vx_ret (W.widen (k := 1) (n := 6) (by decide) (by decide) (gx_iret (u := σ) E hK hP hD hS ⟨⟨c_8, c_19⟩, nf, nw, hxn, hyn, hnf, hnw, Or.inl ⟨Nat.not_le.mp fun z => c_48 (by rw [hP1, hP2, pk_sub hus]; exact nI_le z (by omega)), rfl, rfl⟩⟩ dNr_make_52))
    · exact gv_throw (X := xIA) (tx := "no such object") (is := 72) (ix := 7) (rx := rxIA) E rfl hfl hex hZ hT hK hP hD hS hl.1 rIA0 rIA1 rIA2 rIA5 (by decide) kl_Nr_38 z_IllegalArgumentException (by decide) gx_IA gy_IA go_IA ⟨rfl, Or.inr c_19⟩ (by decide) (by decide) (by decide) (by decide) (by decide) (by decide) dNr_make_22 dNr_make_25 dNr_make_26 dNr_make_28 dNr_make_31
