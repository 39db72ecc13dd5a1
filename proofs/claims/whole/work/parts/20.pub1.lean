/-! THE PUBLIC METHODS -/
set_option maxHeartbeats 4000000 in
set_option maxRecDepth 100000 in
/-- the limit -/
theorem qNr_limit (l : Launch) (hfl : l.stackTraces = false) (D : va_G) (cI cP : ClassId) (a : Nat → Nat) (σ : nSt) (x : Int32) : gv_M l yNr_limit (Cond.code yNr_limit cNr_limit 3 (some .int) :: gW) (gRc 8 1 6) D gC (nrT cI cP) (nrW cI cP a) σ [.ref (a 0), .int x] (fun r u => ¬ isW x 0 15 = 0 ∧ r = σ.F 1 ∧ u = σ.sF 1 x) (fun E => E = xIA ∧ isW x 0 15 = 0) := by
  refine gv_M.of (cc := cNr_limit) (maxL := 3) (ret := (some .int)) (by decide) rfl (Nat.le_of_ble_eq_true rfl) ?_
  intro p e s m args below meth c ls A E hex hZ hT hA hK hP hD hS hl
  obtain ⟨hx, hb, hr, hml, hts, hown, hlocks, hnm⟩ := id E
  have hg : ∀ w ∈ gW, w.before args s = true := fun w h => hts w (List.mem_cons_of_mem _ h)
  have hown : s.vm.findClass "NurseryRow" = some m.cls := hown
  have hl : lv_has ls 3 [(0, .ref (a 0)), (1, .int x)] := hl
  refine lv_iload_n hx hb dNr_limit_0 rfl (lv_at hl 1 rfl) ?_
  refine lv_iconst (v := 0) hx hb dNr_limit_1 (by decide) ?_
  refine lv_bipush (v := 15) hx hb dNr_limit_2 (by decide) ?_
  refine gx_callps (As := [.int x, .int 0, .int 15]) (rest := []) E (qNr_isWithin l D _ _ x 0 15) (gx_cwS hts l_Nr_34 k_Nr_isWithin kt_Nr_isWithin z_Nr n_Nr_isWithin ⟨by decide, by decide⟩) hK hP hD hl.1 rfl rfl (Nat.le_of_ble_eq_true rfl) ⟨Nat.zero_le _, Nat.zero_le _⟩ dNr_limit_4 ?_
  refine lv_if_ne (tgt := 20) hx hb dNr_limit_7 (by decide) (fun c_7 => ?_) (fun c_7 => ?_)
  · refine lv_aload_n hx hb dNr_limit_20 rfl (lv_at hl 0 rfl) ?_
    refine va_get (C := RNr) (T := TNr) (N := 10) (ci := 1) (v := .int (σ.F 1)) hx hb hg inNr hown hK hP 0 rfl rfl 5 (by decide) (hg _ f_Nr_26) (fun _ h9 => h9) rfl dNr_limit_21 ?_
    refine lv_istore_n (lv' := [(2, .int (σ.F 1)), (0, .ref (a 0)), (1, .int x)]) hx hb dNr_limit_24 rfl hl (by decide) rfl (fun ls hl => ?_)
    refine lv_aload_n hx hb dNr_limit_25 rfl (lv_at hl 1 rfl) ?_
    refine lv_iload_n hx hb dNr_limit_26 rfl (lv_at hl 2 rfl) ?_
    refine va_put (C := RNr) (T := TNr) (N := 10) (ci := 1) (v := .int x) hx hb hg inNr tyNr tyNr_ok nmNr hown hK hP hD hS 0 rfl rfl 5 (by decide) (hg _ f_Nr_26) (fun _ h9 => h9) rfl (tyNr_ok 5 (by decide)) rfl rfl (Nat.le_of_ble_eq_true rfl) dNr_limit_27 (fun H locs hP hD hS => ?_)
    have hP : va_P D gC (nrW cI cP a (σ.sF 1 x)) H := hP
    have hD : va_D A (nrW cI cP a (σ.sF 1 x)) := hD
    refine lv_iload_n hx hb dNr_limit_30 rfl (lv_at hl 0 rfl) ?_
    exact vx_ret (W.widen (k := 1) (n := 6) (by decide) (by decide) (gx_iret (u := σ.sF 1 x) E hK hP hD hS ⟨c_7, rfl, rfl⟩ dNr_limit_31))
  · exact gv_throw (X := xIA) (tx := "no such limit") (is := 70) (ix := 7) (rx := rxIA) E rfl hfl hex hZ hT hK hP hD hS hl.1 rIA0 rIA1 rIA2 rIA5 (by decide) kl_Nr_38 z_IllegalArgumentException (by decide) gx_IA gy_IA go_IA ⟨rfl, c_7⟩ (by decide) (by decide) (by decide) (by decide) (by decide) (by decide) dNr_limit_10 dNr_limit_13 dNr_limit_14 dNr_limit_16 dNr_limit_19
set_option maxHeartbeats 4000000 in
set_option maxRecDepth 100000 in
/-- what a field tells -/
theorem qNr_get (l : Launch) (hfl : l.stackTraces = false) (D : va_G) (cI cP : ClassId) (a : Nat → Nat) (σ : nSt) (pp : Nat → Nat → Nat) (x f : Int32) (h : nInv σ pp) : gv_M l yNr_get (Cond.code yNr_get cNr_get 4 (some .int) :: gW) (gRc 8 1 6) D gC (nrT cI cP) (nrW cI cP a) σ [.ref (a 0), .int x, .int f] (fun r u => ¬ fCl σ.X pp x f = 0 ∧ r = σ.X (fCl σ.X pp x f).toNatClampNeg ∧ u = σ) (fun E => E = xNS ∧ fCl σ.X pp x f = 0) := by
  refine gv_M.of (cc := cNr_get) (maxL := 4) (ret := (some .int)) (by decide) rfl (Nat.le_of_ble_eq_true rfl) ?_
  intro p e s m args below meth c ls A E hex hZ hT hA hK hP hD hS hl
  obtain ⟨hx, hb, hr, hml, hts, hown, hlocks, hnm⟩ := id E
  have hg : ∀ w ∈ gW, w.before args s = true := fun w h => hts w (List.mem_cons_of_mem _ h)
  have hown : s.vm.findClass "NurseryRow" = some m.cls := hown
  have hl : lv_has ls 4 [(0, .ref (a 0)), (1, .int x), (2, .int f)] := hl
  refine lv_aload_n hx hb dNr_get_0 rfl (lv_at hl 0 rfl) ?_
  refine lv_iload_n hx hb dNr_get_1 rfl (lv_at hl 1 rfl) ?_
  refine lv_iload_n hx hb dNr_get_2 rfl (lv_at hl 2 rfl) ?_
  refine gx_callp (C := "NurseryRow") (As := [.int x, .int f]) (rest := []) E (qNr_fieldCell l D cI cP a σ pp x f h) (gx_cwV hts l_Nr_84 k_Nr_fieldCell ki_Nr_fieldCell ke_Nr_fieldCell z_Nr n_Nr_fieldCell ⟨by decide, by decide⟩) hK hP hD (va_recv hK hP (ci := 1) (q0 := 0) rfl rfl) hl.1 rfl rfl (Nat.le_of_ble_eq_true rfl) ⟨Nat.zero_le _, Nat.zero_le _⟩ dNr_get_3 ?_
  refine lv_istore_n (lv' := [(3, .int (fCl σ.X pp x f)), (0, .ref (a 0)), (1, .int x), (2, .int f)]) hx hb dNr_get_6 rfl hl (by decide) rfl (fun ls hl => ?_)
  refine lv_iload_n hx hb dNr_get_7 rfl (lv_at hl 0 rfl) ?_
  refine lv_if_ne (tgt := 21) hx hb dNr_get_8 (by decide) (fun c_8 => ?_) (fun c_8 => ?_)
  · obtain ⟨k, nf, nw, j, hxk, hk1, hkN, hnf, hnw, e0, hfj, hj, hat⟩ := fCl_ne h c_8
    have hN : σ.N < 2 ^ 31 := by have := h.2.2.2.2.2.2.2; omega
    refine lv_aload_n hx hb dNr_get_21 rfl (lv_at hl 1 rfl) ?_
    refine va_get (C := RNr) (T := TNr) (N := 10) (ci := 1) (v := .ref σ.hx) hx hb hg inNr hown hK hP 0 rfl rfl 3 (by decide) (hg _ f_Nr_23) (fun _ h9 => h9) rfl dNr_get_22 ?_
    refine lv_iload_n hx hb dNr_get_25 rfl (lv_at hl 0 rfl) ?_
    refine va_iald hx hb hK hP 8 0 rfl rfl (by rw [hat]; exact vp_in_nI (by omega) hN) dNr_get_26 ?_
    exact vx_ret (W.widen (k := 1) (n := 6) (by decide) (by decide) (gx_iret (u := σ) E hK hP hD hS ⟨c_8, rfl, rfl⟩ dNr_get_27))
  · exact gv_throw (X := xNS) (tx := "no such object or field") (is := 94) (ix := 13) (rx := rxNS) E rfl hfl hex hZ hT hK hP hD hS hl.1 rNS0 rNS1 rNS2 rNS5 (by decide) kl_Nr_92 z_NoSuchElementException (by decide) gx_NS gy_NS go_NS ⟨rfl, c_8⟩ (by decide) (by decide) (by decide) (by decide) (by decide) (by decide) dNr_get_11 dNr_get_14 dNr_get_15 dNr_get_17 dNr_get_20
set_option maxHeartbeats 4000000 in
set_option maxRecDepth 100000 in
/-- a word -/
theorem qNr_word (l : Launch) (hfl : l.stackTraces = false) (D : va_G) (cI cP : ClassId) (a : Nat → Nat) (σ : nSt) (pp : Nat → Nat → Nat) (x f : Int32) (h : nInv σ pp) : gv_M l yNr_word (Cond.code yNr_word cNr_word 4 (some .int) :: gW) (gRc 8 1 6) D gC (nrT cI cP) (nrW cI cP a) σ [.ref (a 0), .int x, .int f] (fun r u => ¬ wCl σ.X pp x f = 0 ∧ r = σ.X (wCl σ.X pp x f).toNatClampNeg ∧ u = σ) (fun E => E = xNS ∧ wCl σ.X pp x f = 0) := by
  refine gv_M.of (cc := cNr_word) (maxL := 4) (ret := (some .int)) (by decide) rfl (Nat.le_of_ble_eq_true rfl) ?_
  intro p e s m args below meth c ls A E hex hZ hT hA hK hP hD hS hl
  obtain ⟨hx, hb, hr, hml, hts, hown, hlocks, hnm⟩ := id E
  have hg : ∀ w ∈ gW, w.before args s = true := fun w h => hts w (List.mem_cons_of_mem _ h)
  have hown : s.vm.findClass "NurseryRow" = some m.cls := hown
  have hl : lv_has ls 4 [(0, .ref (a 0)), (1, .int x), (2, .int f)] := hl
  refine lv_aload_n hx hb dNr_word_0 rfl (lv_at hl 0 rfl) ?_
  refine lv_iload_n hx hb dNr_word_1 rfl (lv_at hl 1 rfl) ?_
  refine lv_iload_n hx hb dNr_word_2 rfl (lv_at hl 2 rfl) ?_
  refine gx_callp (C := "NurseryRow") (As := [.int x, .int f]) (rest := []) E (qNr_wordCell l D cI cP a σ pp x f h) (gx_cwV hts l_Nr_100 k_Nr_wordCell ki_Nr_wordCell ke_Nr_wordCell z_Nr n_Nr_wordCell ⟨by decide, by decide⟩) hK hP hD (va_recv hK hP (ci := 1) (q0 := 0) rfl rfl) hl.1 rfl rfl (Nat.le_of_ble_eq_true rfl) ⟨Nat.zero_le _, Nat.zero_le _⟩ dNr_word_3 ?_
  refine lv_istore_n (lv' := [(3, .int (wCl σ.X pp x f)), (0, .ref (a 0)), (1, .int x), (2, .int f)]) hx hb dNr_word_6 rfl hl (by decide) rfl (fun ls hl => ?_)
  refine lv_iload_n hx hb dNr_word_7 rfl (lv_at hl 0 rfl) ?_
  refine lv_if_ne (tgt := 21) hx hb dNr_word_8 (by decide) (fun c_8 => ?_) (fun c_8 => ?_)
  · obtain ⟨k, nf, nw, j, hxk, hk1, hkN, hnf, hnw, e0, e1, hfj, hj, hat⟩ := wCl_ne h c_8
    have hN : σ.N < 2 ^ 31 := by have := h.2.2.2.2.2.2.2; omega
    refine lv_aload_n hx hb dNr_word_21 rfl (lv_at hl 1 rfl) ?_
    refine va_get (C := RNr) (T := TNr) (N := 10) (ci := 1) (v := .ref σ.hx) hx hb hg inNr hown hK hP 0 rfl rfl 3 (by decide) (hg _ f_Nr_23) (fun _ h9 => h9) rfl dNr_word_22 ?_
    refine lv_iload_n hx hb dNr_word_25 rfl (lv_at hl 0 rfl) ?_
    refine va_iald hx hb hK hP 8 0 rfl rfl (by rw [hat]; exact vp_in_nI (by omega) hN) dNr_word_26 ?_
    exact vx_ret (W.widen (k := 1) (n := 6) (by decide) (by decide) (gx_iret (u := σ) E hK hP hD hS ⟨c_8, rfl, rfl⟩ dNr_word_27))
  · exact gv_throw (X := xNS) (tx := "no such object or word") (is := 103) (ix := 13) (rx := rxNS) E rfl hfl hex hZ hT hK hP hD hS hl.1 rNS0 rNS1 rNS2 rNS5 (by decide) kl_Nr_92 z_NoSuchElementException (by decide) gx_NS gy_NS go_NS ⟨rfl, c_8⟩ (by decide) (by decide) (by decide) (by decide) (by decide) (by decide) dNr_word_11 dNr_word_14 dNr_word_15 dNr_word_17 dNr_word_20
set_option maxHeartbeats 4000000 in
set_option maxRecDepth 100000 in
/-- a field becomes b -/
theorem qNr_set (l : Launch) (hfl : l.stackTraces = false) (D : va_G) (cI cP : ClassId) (a : Nat → Nat) (σ : nSt) (pp : Nat → Nat → Nat) (x f b : Int32) (h : nInv σ pp) : gv_M l yNr_set (Cond.code yNr_set cNr_set 5 (some .int) :: gW) (gRc 8 1 6) D gC (nrT cI cP) (nrW cI cP a) σ [.ref (a 0), .int x, .int f, .int b] (fun r u => ¬ fCl σ.X pp x f = 0 ∧ ¬ isNO σ.X pp b = 0 ∧ r = σ.X (fCl σ.X pp x f).toNatClampNeg ∧ u = σ.sX (upd σ.X (fCl σ.X pp x f).toNatClampNeg b)) (fun E => E = xNS ∧ (fCl σ.X pp x f = 0 ∨ isNO σ.X pp b = 0)) := by
  refine gv_M.of (cc := cNr_set) (maxL := 5) (ret := (some .int)) (by decide) rfl (Nat.le_of_ble_eq_true rfl) ?_
  intro p e s m args below meth c ls A E hex hZ hT hA hK hP hD hS hl
  obtain ⟨hx, hb, hr, hml, hts, hown, hlocks, hnm⟩ := id E
  have hg : ∀ w ∈ gW, w.before args s = true := fun w h => hts w (List.mem_cons_of_mem _ h)
  have hown : s.vm.findClass "NurseryRow" = some m.cls := hown
  have hl : lv_has ls 5 [(0, .ref (a 0)), (1, .int x), (2, .int f), (3, .int b)] := hl
  refine lv_aload_n hx hb dNr_set_0 rfl (lv_at hl 0 rfl) ?_
  refine lv_iload_n hx hb dNr_set_1 rfl (lv_at hl 1 rfl) ?_
  refine lv_iload_n hx hb dNr_set_2 rfl (lv_at hl 2 rfl) ?_
  refine gx_callp (C := "NurseryRow") (As := [.int x, .int f]) (rest := []) E (qNr_fieldCell l D cI cP a σ pp x f h) (gx_cwV hts l_Nr_84 k_Nr_fieldCell ki_Nr_fieldCell ke_Nr_fieldCell z_Nr n_Nr_fieldCell ⟨by decide, by decide⟩) hK hP hD (va_recv hK hP (ci := 1) (q0 := 0) rfl rfl) hl.1 rfl rfl (Nat.le_of_ble_eq_true rfl) ⟨Nat.zero_le _, Nat.zero_le _⟩ dNr_set_3 ?_
  refine lv_istore (lv' := [(4, .int (fCl σ.X pp x f)), (0, .ref (a 0)), (1, .int x), (2, .int f), (3, .int b)]) hx hb dNr_set_6 hl (by decide) rfl (fun ls hl => ?_)
  refine lv_iload hx hb dNr_set_8 (lv_at hl 0 rfl) ?_
  refine lv_if_eq (tgt := 21) hx hb dNr_set_10 (by decide) (fun c_10 => ?_) (fun c_10 => ?_)
  · exact gv_throw (X := xNS) (tx := "no such object or field") (is := 94) (ix := 13) (rx := rxNS) E rfl hfl hex hZ hT hK hP hD hS hl.1 rNS0 rNS1 rNS2 rNS5 (by decide) kl_Nr_92 z_NoSuchElementException (by decide) gx_NS gy_NS go_NS ⟨rfl, Or.inl c_10⟩ (by decide) (by decide) (by decide) (by decide) (by decide) (by decide) dNr_set_21 dNr_set_24 dNr_set_25 dNr_set_27 dNr_set_30
  · refine lv_aload_n hx hb dNr_set_13 rfl (lv_at hl 1 rfl) ?_
    refine lv_iload_n hx hb dNr_set_14 rfl (lv_at hl 4 rfl) ?_
    refine gx_callp (C := "NurseryRow") (As := [.int b]) (rest := []) E (qNr_isNothingOrObject l D cI cP a σ pp b h) (gx_cwV hts l_Nr_88 k_Nr_isNothingOrObject ki_Nr_isNothingOrObject ke_Nr_isNothingOrObject z_Nr n_Nr_isNothingOrObject ⟨by decide, by decide⟩) hK hP hD (va_recv hK hP (ci := 1) (q0 := 0) rfl rfl) hl.1 rfl rfl (Nat.le_of_ble_eq_true rfl) ⟨Nat.zero_le _, Nat.zero_le _⟩ dNr_set_15 ?_
    refine lv_if_ne (tgt := 31) hx hb dNr_set_18 (by decide) (fun c_18 => ?_) (fun c_18 => ?_)
    · obtain ⟨k, nf, nw, j, hxk, hk1, hkN, hnf, hnw, e0, hfj, hj, hat⟩ := fCl_ne h c_10
      have hN : σ.N < 2 ^ 31 := by have := h.2.2.2.2.2.2.2; omega
      refine lv_aload_n hx hb dNr_set_31 rfl (lv_at hl 1 rfl) ?_
      refine lv_iload hx hb dNr_set_32 (lv_at hl 0 rfl) ?_
      refine lv_iload_n hx hb dNr_set_34 rfl (lv_at hl 4 rfl) ?_
      refine gx_stk (st' := [.int b, .int (nI (k + 3 + j)), .ref (a 0)]) (by rw [hat]) ?_
      refine gx_calli (C := "NurseryRow") (As := [.int (nI (k + 3 + j)), .int b]) (rest := []) E (qNr_exchange l D cI cP a σ (k + 3 + j) b (by omega) hN) (gx_cwV hts l_Nr_97 k_Nr_exchange ki_Nr_exchange ke_Nr_exchange z_Nr n_Nr_exchange ⟨by decide, by decide⟩) hK hP hD hS hA (va_recv hK hP (ci := 1) (q0 := 0) rfl rfl) hl.1 rfl rfl (Nat.le_of_ble_eq_true rfl) ⟨by decide, by decide⟩ dNr_set_35 (fun r_1 u_2 H locs hq_3 hP hD hS => ?_)
      obtain ⟨hr1, hu1⟩ := hq_3
      subst hr1; subst hu1
      exact vx_ret (W.widen (k := 1) (n := 6) (by decide) (by decide) (gx_iret (u := σ.sX (upd σ.X (k + 3 + j) b)) E hK hP hD hS ⟨c_10, c_18, (by rw [hat, nI_clamp (by omega)]), (by rw [hat, nI_clamp (by omega)])⟩ dNr_set_38))
    · exact gv_throw (X := xNS) (tx := "no such object or field") (is := 94) (ix := 13) (rx := rxNS) E rfl hfl hex hZ hT hK hP hD hS hl.1 rNS0 rNS1 rNS2 rNS5 (by decide) kl_Nr_92 z_NoSuchElementException (by decide) gx_NS gy_NS go_NS ⟨rfl, Or.inr c_18⟩ (by decide) (by decide) (by decide) (by decide) (by decide) (by decide) dNr_set_21 dNr_set_24 dNr_set_25 dNr_set_27 dNr_set_30
set_option maxHeartbeats 4000000 in
set_option maxRecDepth 100000 in
/-- a word becomes b -/
theorem qNr_put (l : Launch) (hfl : l.stackTraces = false) (D : va_G) (cI cP : ClassId) (a : Nat → Nat) (σ : nSt) (pp : Nat → Nat → Nat) (x f b : Int32) (h : nInv σ pp) : gv_M l yNr_put (Cond.code yNr_put cNr_put 5 (some .int) :: gW) (gRc 8 1 6) D gC (nrT cI cP) (nrW cI cP a) σ [.ref (a 0), .int x, .int f, .int b] (fun r u => ¬ wCl σ.X pp x f = 0 ∧ r = σ.X (wCl σ.X pp x f).toNatClampNeg ∧ u = σ.sX (upd σ.X (wCl σ.X pp x f).toNatClampNeg b)) (fun E => E = xNS ∧ wCl σ.X pp x f = 0) := by
  refine gv_M.of (cc := cNr_put) (maxL := 5) (ret := (some .int)) (by decide) rfl (Nat.le_of_ble_eq_true rfl) ?_
  intro p e s m args below meth c ls A E hex hZ hT hA hK hP hD hS hl
  obtain ⟨hx, hb, hr, hml, hts, hown, hlocks, hnm⟩ := id E
  have hg : ∀ w ∈ gW, w.before args s = true := fun w h => hts w (List.mem_cons_of_mem _ h)
  have hown : s.vm.findClass "NurseryRow" = some m.cls := hown
  have hl : lv_has ls 5 [(0, .ref (a 0)), (1, .int x), (2, .int f), (3, .int b)] := hl
  refine lv_aload_n hx hb dNr_put_0 rfl (lv_at hl 0 rfl) ?_
  refine lv_iload_n hx hb dNr_put_1 rfl (lv_at hl 1 rfl) ?_
  refine lv_iload_n hx hb dNr_put_2 rfl (lv_at hl 2 rfl) ?_
  refine gx_callp (C := "NurseryRow") (As := [.int x, .int f]) (rest := []) E (qNr_wordCell l D cI cP a σ pp x f h) (gx_cwV hts l_Nr_100 k_Nr_wordCell ki_Nr_wordCell ke_Nr_wordCell z_Nr n_Nr_wordCell ⟨by decide, by decide⟩) hK hP hD (va_recv hK hP (ci := 1) (q0 := 0) rfl rfl) hl.1 rfl rfl (Nat.le_of_ble_eq_true rfl) ⟨Nat.zero_le _, Nat.zero_le _⟩ dNr_put_3 ?_
  refine lv_istore (lv' := [(4, .int (wCl σ.X pp x f)), (0, .ref (a 0)), (1, .int x), (2, .int f), (3, .int b)]) hx hb dNr_put_6 hl (by decide) rfl (fun ls hl => ?_)
  refine lv_iload hx hb dNr_put_8 (lv_at hl 0 rfl) ?_
  refine lv_if_ne (tgt := 23) hx hb dNr_put_10 (by decide) (fun c_10 => ?_) (fun c_10 => ?_)
  · obtain ⟨k, nf, nw, j, hxk, hk1, hkN, hnf, hnw, e0, e1, hfj, hj, hat⟩ := wCl_ne h c_10
    have hN : σ.N < 2 ^ 31 := by have := h.2.2.2.2.2.2.2; omega
    refine lv_aload_n hx hb dNr_put_23 rfl (lv_at hl 1 rfl) ?_
    refine lv_iload hx hb dNr_put_24 (lv_at hl 0 rfl) ?_
    refine lv_iload_n hx hb dNr_put_26 rfl (lv_at hl 4 rfl) ?_
    refine gx_stk (st' := [.int b, .int (nI (k + 3 + nf + j)), .ref (a 0)]) (by rw [hat]) ?_
    refine gx_calli (C := "NurseryRow") (As := [.int (nI (k + 3 + nf + j)), .int b]) (rest := []) E (qNr_exchange l D cI cP a σ (k + 3 + nf + j) b (by omega) hN) (gx_cwV hts l_Nr_97 k_Nr_exchange ki_Nr_exchange ke_Nr_exchange z_Nr n_Nr_exchange ⟨by decide, by decide⟩) hK hP hD hS hA (va_recv hK hP (ci := 1) (q0 := 0) rfl rfl) hl.1 rfl rfl (Nat.le_of_ble_eq_true rfl) ⟨by decide, by decide⟩ dNr_put_27 (fun r_1 u_2 H locs hq_3 hP hD hS => ?_)
    obtain ⟨hr1, hu1⟩ := hq_3
    subst hr1; subst hu1
    exact vx_ret (W.widen (k := 1) (n := 6) (by decide) (by decide) (gx_iret (u := σ.sX (upd σ.X (k + 3 + nf + j) b)) E hK hP hD hS ⟨c_10, (by rw [hat, nI_clamp (by omega)]), (by rw [hat, nI_clamp (by omega)])⟩ dNr_put_30))
  · exact gv_throw (X := xNS) (tx := "no such object or word") (is := 103) (ix := 13) (rx := rxNS) E rfl hfl hex hZ hT hK hP hD hS hl.1 rNS0 rNS1 rNS2 rNS5 (by decide) kl_Nr_92 z_NoSuchElementException (by decide) gx_NS gy_NS go_NS ⟨rfl, c_10⟩ (by decide) (by decide) (by decide) (by decide) (by decide) (by decide) dNr_put_13 dNr_put_16 dNr_put_17 dNr_put_19 dNr_put_22
set_option maxHeartbeats 4000000 in
set_option maxRecDepth 100000 in
/-- what a root tells -/
theorem qNr_rooted (l : Launch) (hfl : l.stackTraces = false) (D : va_G) (cI cP : ClassId) (a : Nat → Nat) (σ : nSt) (x : Int32) : gv_M l yNr_rooted (Cond.code yNr_rooted cNr_rooted 2 (some .int) :: gW) (gRc 8 1 6) D gC (nrT cI cP) (nrW cI cP a) σ [.ref (a 0), .int x] (fun r u => ¬ isR x = 0 ∧ r = σ.R x.toNatClampNeg ∧ u = σ) (fun E => E = xNS ∧ isR x = 0) := by
  refine gv_M.of (cc := cNr_rooted) (maxL := 2) (ret := (some .int)) (by decide) rfl (Nat.le_of_ble_eq_true rfl) ?_
  intro p e s m args below meth c ls A E hex hZ hT hA hK hP hD hS hl
  obtain ⟨hx, hb, hr, hml, hts, hown, hlocks, hnm⟩ := id E
  have hg : ∀ w ∈ gW, w.before args s = true := fun w h => hts w (List.mem_cons_of_mem _ h)
  have hown : s.vm.findClass "NurseryRow" = some m.cls := hown
  have hl : lv_has ls 2 [(0, .ref (a 0)), (1, .int x)] := hl
  refine lv_iload_n hx hb dNr_rooted_0 rfl (lv_at hl 1 rfl) ?_
  refine gx_callps (As := [.int x]) (rest := []) E (qNr_isRoot l D _ _ x) (gx_cwS hts l_Nr_105 k_Nr_isRoot kt_Nr_isRoot z_Nr n_Nr_isRoot ⟨by decide, by decide⟩) hK hP hD hl.1 rfl rfl (Nat.le_of_ble_eq_true rfl) ⟨Nat.zero_le _, Nat.zero_le _⟩ dNr_rooted_1 ?_
  refine lv_if_ne (tgt := 17) hx hb dNr_rooted_4 (by decide) (fun c_4 => ?_) (fun c_4 => ?_)
  · obtain ⟨t, hxt, ht⟩ := isR_ne c_4
    refine lv_aload_n hx hb dNr_rooted_17 rfl (lv_at hl 0 rfl) ?_
    refine va_get (C := RNr) (T := TNr) (N := 10) (ci := 1) (v := .ref (a 6)) hx hb hg inNr hown hK hP 0 rfl rfl 1 (by decide) (hg _ f_Nr_16) (fun _ h9 => h9) rfl dNr_rooted_18 ?_
    refine lv_iload_n hx hb dNr_rooted_21 rfl (lv_at hl 1 rfl) ?_
    refine va_iald hx hb hK hP 6 0 rfl rfl (by rw [hxt]; exact vp_in_nI ht (by decide)) dNr_rooted_22 ?_
    exact vx_ret (W.widen (k := 1) (n := 6) (by decide) (by decide) (gx_iret (u := σ) E hK hP hD hS ⟨c_4, rfl, rfl⟩ dNr_rooted_23))
  · exact gv_throw (X := xNS) (tx := "no such root") (is := 110) (ix := 13) (rx := rxNS) E rfl hfl hex hZ hT hK hP hD hS hl.1 rNS0 rNS1 rNS2 rNS5 (by decide) kl_Nr_92 z_NoSuchElementException (by decide) gx_NS gy_NS go_NS ⟨rfl, c_4⟩ (by decide) (by decide) (by decide) (by decide) (by decide) (by decide) dNr_rooted_7 dNr_rooted_10 dNr_rooted_11 dNr_rooted_13 dNr_rooted_16
set_option maxHeartbeats 4000000 in
set_option maxRecDepth 100000 in
/-- a root becomes b -/
theorem qNr_root (l : Launch) (hfl : l.stackTraces = false) (D : va_G) (cI cP : ClassId) (a : Nat → Nat) (σ : nSt) (pp : Nat → Nat → Nat) (x b : Int32) (h : nInv σ pp) : gv_M l yNr_root (Cond.code yNr_root cNr_root 4 (some .int) :: gW) (gRc 8 1 6) D gC (nrT cI cP) (nrW cI cP a) σ [.ref (a 0), .int x, .int b] (fun r u => ¬ isR x = 0 ∧ ¬ isNO σ.X pp b = 0 ∧ r = σ.R x.toNatClampNeg ∧ u = σ.sR (upd σ.R x.toNatClampNeg b)) (fun E => E = xNS ∧ (isR x = 0 ∨ isNO σ.X pp b = 0)) := by
  refine gv_M.of (cc := cNr_root) (maxL := 4) (ret := (some .int)) (by decide) rfl (Nat.le_of_ble_eq_true rfl) ?_
  intro p e s m args below meth c ls A E hex hZ hT hA hK hP hD hS hl
  obtain ⟨hx, hb, hr, hml, hts, hown, hlocks, hnm⟩ := id E
  have hg : ∀ w ∈ gW, w.before args s = true := fun w h => hts w (List.mem_cons_of_mem _ h)
  have hown : s.vm.findClass "NurseryRow" = some m.cls := hown
  have hl : lv_has ls 4 [(0, .ref (a 0)), (1, .int x), (2, .int b)] := hl
  refine lv_iload_n hx hb dNr_root_0 rfl (lv_at hl 1 rfl) ?_
  refine gx_callps (As := [.int x]) (rest := []) E (qNr_isRoot l D _ _ x) (gx_cwS hts l_Nr_105 k_Nr_isRoot kt_Nr_isRoot z_Nr n_Nr_isRoot ⟨by decide, by decide⟩) hK hP hD hl.1 rfl rfl (Nat.le_of_ble_eq_true rfl) ⟨Nat.zero_le _, Nat.zero_le _⟩ dNr_root_1 ?_
  refine lv_if_eq (tgt := 15) hx hb dNr_root_4 (by decide) (fun c_4 => ?_) (fun c_4 => ?_)
  · exact gv_throw (X := xNS) (tx := "no such root or object") (is := 108) (ix := 13) (rx := rxNS) E rfl hfl hex hZ hT hK hP hD hS hl.1 rNS0 rNS1 rNS2 rNS5 (by decide) kl_Nr_92 z_NoSuchElementException (by decide) gx_NS gy_NS go_NS ⟨rfl, Or.inl c_4⟩ (by decide) (by decide) (by decide) (by decide) (by decide) (by decide) dNr_root_15 dNr_root_18 dNr_root_19 dNr_root_21 dNr_root_24
  · refine lv_aload_n hx hb dNr_root_7 rfl (lv_at hl 0 rfl) ?_
    refine lv_iload_n hx hb dNr_root_8 rfl (lv_at hl 2 rfl) ?_
    refine gx_callp (C := "NurseryRow") (As := [.int b]) (rest := []) E (qNr_isNothingOrObject l D cI cP a σ pp b h) (gx_cwV hts l_Nr_88 k_Nr_isNothingOrObject ki_Nr_isNothingOrObject ke_Nr_isNothingOrObject z_Nr n_Nr_isNothingOrObject ⟨by decide, by decide⟩) hK hP hD (va_recv hK hP (ci := 1) (q0 := 0) rfl rfl) hl.1 rfl rfl (Nat.le_of_ble_eq_true rfl) ⟨Nat.zero_le _, Nat.zero_le _⟩ dNr_root_9 ?_
    refine lv_if_ne (tgt := 25) hx hb dNr_root_12 (by decide) (fun c_12 => ?_) (fun c_12 => ?_)
    · obtain ⟨t, hxt, ht⟩ := isR_ne c_4
      refine lv_aload_n hx hb dNr_root_25 rfl (lv_at hl 0 rfl) ?_
      refine va_get (C := RNr) (T := TNr) (N := 10) (ci := 1) (v := .ref (a 6)) hx hb hg inNr hown hK hP 0 rfl rfl 1 (by decide) (hg _ f_Nr_16) (fun _ h9 => h9) rfl dNr_root_26 ?_
      refine lv_iload_n hx hb dNr_root_29 rfl (lv_at hl 1 rfl) ?_
      refine va_iald hx hb hK hP 6 0 rfl rfl (by rw [hxt]; exact vp_in_nI ht (by decide)) dNr_root_30 ?_
      refine lv_istore_n (lv' := [(3, .int (σ.R x.toNatClampNeg)), (0, .ref (a 0)), (1, .int x), (2, .int b)]) hx hb dNr_root_31 rfl hl (by decide) rfl (fun ls hl => ?_)
      refine lv_aload_n hx hb dNr_root_32 rfl (lv_at hl 1 rfl) ?_
      refine va_get (C := RNr) (T := TNr) (N := 10) (ci := 1) (v := .ref (a 6)) hx hb hg inNr hown hK hP 0 rfl rfl 1 (by decide) (hg _ f_Nr_16) (fun _ h9 => h9) rfl dNr_root_33 ?_
      refine lv_iload_n hx hb dNr_root_36 rfl (lv_at hl 2 rfl) ?_
      refine lv_iload_n hx hb dNr_root_37 rfl (lv_at hl 3 rfl) ?_
      refine va_iast hx hb hK hP hD hS 6 0 rfl rfl (by rw [hxt]; exact vp_in_nI ht (by decide)) dNr_root_38 (fun H locs hP hD hS => ?_)
      have hP : va_P D gC (nrW cI cP a (σ.sR (upd σ.R x.toNatClampNeg b))) H := hP
      have hD : va_D A (nrW cI cP a (σ.sR (upd σ.R x.toNatClampNeg b))) := hD
      refine lv_iload_n hx hb dNr_root_39 rfl (lv_at hl 0 rfl) ?_
      exact vx_ret (W.widen (k := 1) (n := 6) (by decide) (by decide) (gx_iret (u := σ.sR (upd σ.R x.toNatClampNeg b)) E hK hP hD hS ⟨c_4, c_12, rfl, rfl⟩ dNr_root_40))
    · exact gv_throw (X := xNS) (tx := "no such root or object") (is := 108) (ix := 13) (rx := rxNS) E rfl hfl hex hZ hT hK hP hD hS hl.1 rNS0 rNS1 rNS2 rNS5 (by decide) kl_Nr_92 z_NoSuchElementException (by decide) gx_NS gy_NS go_NS ⟨rfl, Or.inr c_12⟩ (by decide) (by decide) (by decide) (by decide) (by decide) (by decide) dNr_root_15 dNr_root_18 dNr_root_19 dNr_root_21 dNr_root_24
