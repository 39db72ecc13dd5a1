/-! THE LAW'S THIRTEEN HELPERS -/
set_option maxHeartbeats 4000000 in
set_option maxRecDepth 100000 in
theorem hp_space (l : Launch) (hfl : l.stackTraces = false) (D : va_G) (cI cP cL : ClassId) (a : Nat → Nat) (ho : Nat) (σ : nSt) (f : Nat → Int64) (p0 : Int32) (p1 : Int32) (p2 : Int32) (post : Int32 → nSt → Prop) (thr : String → Prop) (hM : gv_M l yNr_space (Cond.code yNr_space cNr_space 5 (some .int) :: gW) (gRc 8 1 10241) D gC (nrT cI cP) (nrW cI cP a) σ (.ref (a 0) :: [.int p0, .int p1, .int p2]) post thr) (hthr : ∀ E, thr E → ∃ c, (E, c) ∈ ([(xIA, 1)] : List (String × Int32))) :
    gz_M l yLw_space (Cond.codeWith yLw_space cLw_space 6 (some .int) [(0, 12, 15, 13)] :: gW) (gRc 9 1 10241) D gC (hpT cI cP cL) (hpW cI cP cL a ho) (σ, f) [.ref (a 0), .int p0, .int p1, .int p2, .ref ho] (hpP σ f post thr [(xIA, 1)]) := by
  refine gz_M.of (cc := cLw_space) (maxL := 6) (ret := some .int) (hh := [(0, 12, 15, 13)]) (by decide) rfl (Nat.le_of_ble_eq_true rfl) ?_
  intro p e s m args below meth c ls A E htb hZ hT hA hK hP hD hS hl
  obtain ⟨hx, hb, hr, hml, hts, hown, hlocks, hnm⟩ := id E
  have hg : ∀ w ∈ gW, w.before args s = true := fun w h => hts w (List.mem_cons_of_mem _ h)
  have hown : s.vm.findClass "NurseryRowLaw" = some m.cls := hown
  have hl : lv_has ls 6 [(0, .ref (a 0)), (1, .int p0), (2, .int p1), (3, .int p2), (4, .ref ho)] := hl
  refine lv_aload hx hb dLw_space_0 (lv_at hl 4 rfl) ?_
  refine lv_iconst (v := 0) hx hb dLw_space_2 (by decide) ?_
  refine lv_aload_n hx hb dLw_space_3 rfl (lv_at hl 0 rfl) ?_
  refine lv_iload_n hx hb dLw_space_4 rfl (lv_at hl 1 rfl) ?_
  refine lv_iload_n hx hb dLw_space_5 rfl (lv_at hl 2 rfl) ?_
  refine lv_iload_n hx hb dLw_space_6 rfl (lv_at hl 3 rfl) ?_
  have hKc : va_K D gC (nrT cI cP) s := hK.sub [0, 1] rfl
  refine gv_callS (C := "NurseryRow") (wr := [(ho, .inl (cL, 1, .inr (.inl f)))]) (As := [.int p0, .int p1, .int p2]) (rest := [.int 0, .ref ho]) E hM (gx_cwV hts l_Lw_7 k_Nr_space ki_Nr_space ke_Nr_space z_Nr n_Nr_space ⟨by decide, by decide⟩) [0, 1, 2, 3, 4, 5, 6, 7, 8] [9] rfl rfl rfl rfl (by decide) hKc hZ hT hP hD hS hA (va_recv hK hP (ci := 1) (q0 := 0) rfl rfl) hl.1 rfl rfl (Nat.le_of_ble_eq_true rfl) ⟨by decide, by decide⟩ dLw_space_7 (fun X ce q9 H locs hX hP hD hS h1 h2 h3 => ?_) (fun r u H locs hq hP hD hS => ?_)
  · obtain ⟨k0, hk0⟩ := hthr X hX
    have hkm := hk0
    obtain ⟨eX, ek⟩ := Prod.mk.inj (List.mem_singleton.mp hk0)
    subst eX; subst ek
    have hP2 : va_P D gC (hpW cI cP cL a ho (σ, f)) H := hP.sub [1, 2, 3, 4, 5, 6, 7, 8, 9, 0] rfl
    have hD2 : va_D A (hpW cI cP cL a ho (σ, f)) := hD.sub [1, 2, 3, 4, 5, 6, 7, 8, 9, 0] rfl rfl
    refine gz_catch1 hown htb (by decide) (by decide) (hg _ kl_Lw_13) (gv_cast hT (by decide +kernel)) h1 h2 h3 ?_
    refine lv_astore (lv' := [(5, .ref q9), (0, .ref (a 0)), (1, .int p0), (2, .int p1), (3, .int p2), (4, .ref ho)]) hx hb dLw_space_15 hl (by decide) rfl (fun ls hl => ?_)
    refine lv_iconst (v := 1) hx hb dLw_space_17 (by decide) ?_
    exact gx_iret (u := (σ, f)) E hK hP2 hD2 hS (Or.inr ⟨_, hX, hkm, rfl⟩) dLw_space_18
  · have hP : va_P D gC (hpW cI cP cL a ho (u, f)) H := hP.sub [1, 2, 3, 4, 5, 6, 7, 8, 9, 0] rfl
    have hD : va_D A (hpW cI cP cL a ho (u, f)) := hD.sub [1, 2, 3, 4, 5, 6, 7, 8, 9, 0] rfl rfl
    refine lv_i2l hx hb dLw_space_10 rfl ?_
    refine va_last hx hb hK hP hD hS 9 2 rfl rfl (by unfold vp_in; decide) dLw_space_11 (fun H locs hP hD hS => ?_)
    have hP : va_P D gC (hpW cI cP cL a ho (u, vp_updL f 0 r.toInt64)) H := hP
    have hD : va_D A (hpW cI cP cL a ho (u, vp_updL f 0 r.toInt64)) := hD
    refine lv_goto (tgt := 19) hx hb dLw_space_12 (by decide) ?_
    refine lv_iconst (v := 0) hx hb dLw_space_19 (by decide) ?_
    exact gx_iret (u := (u, vp_updL f 0 r.toInt64)) E hK hP hD hS (Or.inl ⟨rfl, r, hq, (show vp_updL f 0 r.toInt64 0 = r.toInt64 from pk_uLs)⟩) dLw_space_20
set_option maxHeartbeats 4000000 in
set_option maxRecDepth 100000 in
theorem hp_limit (l : Launch) (hfl : l.stackTraces = false) (D : va_G) (cI cP cL : ClassId) (a : Nat → Nat) (ho : Nat) (σ : nSt) (f : Nat → Int64) (p0 : Int32) (post : Int32 → nSt → Prop) (thr : String → Prop) (hM : gv_M l yNr_limit (Cond.code yNr_limit cNr_limit 3 (some .int) :: gW) (gRc 8 1 6) D gC (nrT cI cP) (nrW cI cP a) σ (.ref (a 0) :: [.int p0]) post thr) (hthr : ∀ E, thr E → ∃ c, (E, c) ∈ ([(xIA, 1)] : List (String × Int32))) :
    gz_M l yLw_limit (Cond.codeWith yLw_limit cLw_limit 4 (some .int) [(0, 9, 12, 13)] :: gW) (gRc 9 1 6) D gC (hpT cI cP cL) (hpW cI cP cL a ho) (σ, f) [.ref (a 0), .int p0, .ref ho] (hpP σ f post thr [(xIA, 1)]) := by
  refine gz_M.of (cc := cLw_limit) (maxL := 4) (ret := some .int) (hh := [(0, 9, 12, 13)]) (by decide) rfl (Nat.le_of_ble_eq_true rfl) ?_
  intro p e s m args below meth c ls A E htb hZ hT hA hK hP hD hS hl
  obtain ⟨hx, hb, hr, hml, hts, hown, hlocks, hnm⟩ := id E
  have hg : ∀ w ∈ gW, w.before args s = true := fun w h => hts w (List.mem_cons_of_mem _ h)
  have hown : s.vm.findClass "NurseryRowLaw" = some m.cls := hown
  have hl : lv_has ls 4 [(0, .ref (a 0)), (1, .int p0), (2, .ref ho)] := hl
  refine lv_aload_n hx hb dLw_limit_0 rfl (lv_at hl 2 rfl) ?_
  refine lv_iconst (v := 0) hx hb dLw_limit_1 (by decide) ?_
  refine lv_aload_n hx hb dLw_limit_2 rfl (lv_at hl 0 rfl) ?_
  refine lv_iload_n hx hb dLw_limit_3 rfl (lv_at hl 1 rfl) ?_
  have hKc : va_K D gC (nrT cI cP) s := hK.sub [0, 1] rfl
  refine gv_callS (C := "NurseryRow") (wr := [(ho, .inl (cL, 1, .inr (.inl f)))]) (As := [.int p0]) (rest := [.int 0, .ref ho]) E hM (gx_cwV hts l_Lw_15 k_Nr_limit ki_Nr_limit ke_Nr_limit z_Nr n_Nr_limit ⟨by decide, by decide⟩) [0, 1, 2, 3, 4, 5, 6, 7, 8] [9] rfl rfl rfl rfl (by decide) hKc hZ hT hP hD hS hA (va_recv hK hP (ci := 1) (q0 := 0) rfl rfl) hl.1 rfl rfl (Nat.le_of_ble_eq_true rfl) ⟨by decide, by decide⟩ dLw_limit_4 (fun X ce q9 H locs hX hP hD hS h1 h2 h3 => ?_) (fun r u H locs hq hP hD hS => ?_)
  · obtain ⟨k0, hk0⟩ := hthr X hX
    have hkm := hk0
    obtain ⟨eX, ek⟩ := Prod.mk.inj (List.mem_singleton.mp hk0)
    subst eX; subst ek
    have hP2 : va_P D gC (hpW cI cP cL a ho (σ, f)) H := hP.sub [1, 2, 3, 4, 5, 6, 7, 8, 9, 0] rfl
    have hD2 : va_D A (hpW cI cP cL a ho (σ, f)) := hD.sub [1, 2, 3, 4, 5, 6, 7, 8, 9, 0] rfl rfl
    refine gz_catch1 hown htb (by decide) (by decide) (hg _ kl_Lw_13) (gv_cast hT (by decide +kernel)) h1 h2 h3 ?_
    refine lv_astore_n (lv' := [(3, .ref q9), (0, .ref (a 0)), (1, .int p0), (2, .ref ho)]) hx hb dLw_limit_12 rfl hl (by decide) rfl (fun ls hl => ?_)
    refine lv_iconst (v := 1) hx hb dLw_limit_13 (by decide) ?_
    exact gx_iret (u := (σ, f)) E hK hP2 hD2 hS (Or.inr ⟨_, hX, hkm, rfl⟩) dLw_limit_14
  · have hP : va_P D gC (hpW cI cP cL a ho (u, f)) H := hP.sub [1, 2, 3, 4, 5, 6, 7, 8, 9, 0] rfl
    have hD : va_D A (hpW cI cP cL a ho (u, f)) := hD.sub [1, 2, 3, 4, 5, 6, 7, 8, 9, 0] rfl rfl
    refine lv_i2l hx hb dLw_limit_7 rfl ?_
    refine va_last hx hb hK hP hD hS 9 2 rfl rfl (by unfold vp_in; decide) dLw_limit_8 (fun H locs hP hD hS => ?_)
    have hP : va_P D gC (hpW cI cP cL a ho (u, vp_updL f 0 r.toInt64)) H := hP
    have hD : va_D A (hpW cI cP cL a ho (u, vp_updL f 0 r.toInt64)) := hD
    refine lv_goto (tgt := 15) hx hb dLw_limit_9 (by decide) ?_
    refine lv_iconst (v := 0) hx hb dLw_limit_15 (by decide) ?_
    exact gx_iret (u := (u, vp_updL f 0 r.toInt64)) E hK hP hD hS (Or.inl ⟨rfl, r, hq, (show vp_updL f 0 r.toInt64 0 = r.toInt64 from pk_uLs)⟩) dLw_limit_16
set_option maxHeartbeats 4000000 in
set_option maxRecDepth 100000 in
theorem hp_make (l : Launch) (hfl : l.stackTraces = false) (D : va_G) (cI cP cL : ClassId) (a : Nat → Nat) (ho : Nat) (σ : nSt) (f : Nat → Int64) (p0 : Int32) (p1 : Int32) (post : Int32 → nSt → Prop) (thr : String → Prop) (hM : gv_M l yNr_make (Cond.code yNr_make cNr_make 5 (some .int) :: gW) (gRc 8 1 6) D gC (nrT cI cP) (nrW cI cP a) σ (.ref (a 0) :: [.int p0, .int p1]) post thr) (hthr : ∀ E, thr E → ∃ c, (E, c) ∈ ([(xIA, 1)] : List (String × Int32))) :
    gz_M l yLw_make (Cond.codeWith yLw_make cLw_make 5 (some .int) [(0, 10, 13, 13)] :: gW) (gRc 9 1 6) D gC (hpT cI cP cL) (hpW cI cP cL a ho) (σ, f) [.ref (a 0), .int p0, .int p1, .ref ho] (hpP σ f post thr [(xIA, 1)]) := by
  refine gz_M.of (cc := cLw_make) (maxL := 5) (ret := some .int) (hh := [(0, 10, 13, 13)]) (by decide) rfl (Nat.le_of_ble_eq_true rfl) ?_
  intro p e s m args below meth c ls A E htb hZ hT hA hK hP hD hS hl
  obtain ⟨hx, hb, hr, hml, hts, hown, hlocks, hnm⟩ := id E
  have hg : ∀ w ∈ gW, w.before args s = true := fun w h => hts w (List.mem_cons_of_mem _ h)
  have hown : s.vm.findClass "NurseryRowLaw" = some m.cls := hown
  have hl : lv_has ls 5 [(0, .ref (a 0)), (1, .int p0), (2, .int p1), (3, .ref ho)] := hl
  refine lv_aload_n hx hb dLw_make_0 rfl (lv_at hl 3 rfl) ?_
  refine lv_iconst (v := 0) hx hb dLw_make_1 (by decide) ?_
  refine lv_aload_n hx hb dLw_make_2 rfl (lv_at hl 0 rfl) ?_
  refine lv_iload_n hx hb dLw_make_3 rfl (lv_at hl 1 rfl) ?_
  refine lv_iload_n hx hb dLw_make_4 rfl (lv_at hl 2 rfl) ?_
  have hKc : va_K D gC (nrT cI cP) s := hK.sub [0, 1] rfl
  refine gv_callS (C := "NurseryRow") (wr := [(ho, .inl (cL, 1, .inr (.inl f)))]) (As := [.int p0, .int p1]) (rest := [.int 0, .ref ho]) E hM (gx_cwV hts l_Lw_19 k_Nr_make ki_Nr_make ke_Nr_make z_Nr n_Nr_make ⟨by decide, by decide⟩) [0, 1, 2, 3, 4, 5, 6, 7, 8] [9] rfl rfl rfl rfl (by decide) hKc hZ hT hP hD hS hA (va_recv hK hP (ci := 1) (q0 := 0) rfl rfl) hl.1 rfl rfl (Nat.le_of_ble_eq_true rfl) ⟨by decide, by decide⟩ dLw_make_5 (fun X ce q9 H locs hX hP hD hS h1 h2 h3 => ?_) (fun r u H locs hq hP hD hS => ?_)
  · obtain ⟨k0, hk0⟩ := hthr X hX
    have hkm := hk0
    obtain ⟨eX, ek⟩ := Prod.mk.inj (List.mem_singleton.mp hk0)
    subst eX; subst ek
    have hP2 : va_P D gC (hpW cI cP cL a ho (σ, f)) H := hP.sub [1, 2, 3, 4, 5, 6, 7, 8, 9, 0] rfl
    have hD2 : va_D A (hpW cI cP cL a ho (σ, f)) := hD.sub [1, 2, 3, 4, 5, 6, 7, 8, 9, 0] rfl rfl
    refine gz_catch1 hown htb (by decide) (by decide) (hg _ kl_Lw_13) (gv_cast hT (by decide +kernel)) h1 h2 h3 ?_
    refine lv_astore (lv' := [(4, .ref q9), (0, .ref (a 0)), (1, .int p0), (2, .int p1), (3, .ref ho)]) hx hb dLw_make_13 hl (by decide) rfl (fun ls hl => ?_)
    refine lv_iconst (v := 1) hx hb dLw_make_15 (by decide) ?_
    exact gx_iret (u := (σ, f)) E hK hP2 hD2 hS (Or.inr ⟨_, hX, hkm, rfl⟩) dLw_make_16
  · have hP : va_P D gC (hpW cI cP cL a ho (u, f)) H := hP.sub [1, 2, 3, 4, 5, 6, 7, 8, 9, 0] rfl
    have hD : va_D A (hpW cI cP cL a ho (u, f)) := hD.sub [1, 2, 3, 4, 5, 6, 7, 8, 9, 0] rfl rfl
    refine lv_i2l hx hb dLw_make_8 rfl ?_
    refine va_last hx hb hK hP hD hS 9 2 rfl rfl (by unfold vp_in; decide) dLw_make_9 (fun H locs hP hD hS => ?_)
    have hP : va_P D gC (hpW cI cP cL a ho (u, vp_updL f 0 r.toInt64)) H := hP
    have hD : va_D A (hpW cI cP cL a ho (u, vp_updL f 0 r.toInt64)) := hD
    refine lv_goto (tgt := 17) hx hb dLw_make_10 (by decide) ?_
    refine lv_iconst (v := 0) hx hb dLw_make_17 (by decide) ?_
    exact gx_iret (u := (u, vp_updL f 0 r.toInt64)) E hK hP hD hS (Or.inl ⟨rfl, r, hq, (show vp_updL f 0 r.toInt64 0 = r.toInt64 from pk_uLs)⟩) dLw_make_18
set_option maxHeartbeats 4000000 in
set_option maxRecDepth 100000 in
theorem hp_set (l : Launch) (hfl : l.stackTraces = false) (D : va_G) (cI cP cL : ClassId) (a : Nat → Nat) (ho : Nat) (σ : nSt) (f : Nat → Int64) (p0 : Int32) (p1 : Int32) (p2 : Int32) (post : Int32 → nSt → Prop) (thr : String → Prop) (hM : gv_M l yNr_set (Cond.code yNr_set cNr_set 5 (some .int) :: gW) (gRc 8 1 6) D gC (nrT cI cP) (nrW cI cP a) σ (.ref (a 0) :: [.int p0, .int p1, .int p2]) post thr) (hthr : ∀ E, thr E → ∃ c, (E, c) ∈ ([(xNS, 1)] : List (String × Int32))) :
    gz_M l yLw_set (Cond.codeWith yLw_set cLw_set 6 (some .int) [(0, 12, 15, 26)] :: gW) (gRc 9 1 6) D gC (hpT cI cP cL) (hpW cI cP cL a ho) (σ, f) [.ref (a 0), .int p0, .int p1, .int p2, .ref ho] (hpP σ f post thr [(xNS, 1)]) := by
  refine gz_M.of (cc := cLw_set) (maxL := 6) (ret := some .int) (hh := [(0, 12, 15, 26)]) (by decide) rfl (Nat.le_of_ble_eq_true rfl) ?_
  intro p e s m args below meth c ls A E htb hZ hT hA hK hP hD hS hl
  obtain ⟨hx, hb, hr, hml, hts, hown, hlocks, hnm⟩ := id E
  have hg : ∀ w ∈ gW, w.before args s = true := fun w h => hts w (List.mem_cons_of_mem _ h)
  have hown : s.vm.findClass "NurseryRowLaw" = some m.cls := hown
  have hl : lv_has ls 6 [(0, .ref (a 0)), (1, .int p0), (2, .int p1), (3, .int p2), (4, .ref ho)] := hl
  refine lv_aload hx hb dLw_set_0 (lv_at hl 4 rfl) ?_
  refine lv_iconst (v := 0) hx hb dLw_set_2 (by decide) ?_
  refine lv_aload_n hx hb dLw_set_3 rfl (lv_at hl 0 rfl) ?_
  refine lv_iload_n hx hb dLw_set_4 rfl (lv_at hl 1 rfl) ?_
  refine lv_iload_n hx hb dLw_set_5 rfl (lv_at hl 2 rfl) ?_
  refine lv_iload_n hx hb dLw_set_6 rfl (lv_at hl 3 rfl) ?_
  have hKc : va_K D gC (nrT cI cP) s := hK.sub [0, 1] rfl
  refine gv_callS (C := "NurseryRow") (wr := [(ho, .inl (cL, 1, .inr (.inl f)))]) (As := [.int p0, .int p1, .int p2]) (rest := [.int 0, .ref ho]) E hM (gx_cwV hts l_Lw_23 k_Nr_set ki_Nr_set ke_Nr_set z_Nr n_Nr_set ⟨by decide, by decide⟩) [0, 1, 2, 3, 4, 5, 6, 7, 8] [9] rfl rfl rfl rfl (by decide) hKc hZ hT hP hD hS hA (va_recv hK hP (ci := 1) (q0 := 0) rfl rfl) hl.1 rfl rfl (Nat.le_of_ble_eq_true rfl) ⟨by decide, by decide⟩ dLw_set_7 (fun X ce q9 H locs hX hP hD hS h1 h2 h3 => ?_) (fun r u H locs hq hP hD hS => ?_)
  · obtain ⟨k0, hk0⟩ := hthr X hX
    have hkm := hk0
    obtain ⟨eX, ek⟩ := Prod.mk.inj (List.mem_singleton.mp hk0)
    subst eX; subst ek
    have hP2 : va_P D gC (hpW cI cP cL a ho (σ, f)) H := hP.sub [1, 2, 3, 4, 5, 6, 7, 8, 9, 0] rfl
    have hD2 : va_D A (hpW cI cP cL a ho (σ, f)) := hD.sub [1, 2, 3, 4, 5, 6, 7, 8, 9, 0] rfl rfl
    refine gz_catch1 hown htb (by decide) (by decide) (hg _ kl_Lw_26) (gv_cast hT (by decide +kernel)) h1 h2 h3 ?_
    refine lv_astore (lv' := [(5, .ref q9), (0, .ref (a 0)), (1, .int p0), (2, .int p1), (3, .int p2), (4, .ref ho)]) hx hb dLw_set_15 hl (by decide) rfl (fun ls hl => ?_)
    refine lv_iconst (v := 1) hx hb dLw_set_17 (by decide) ?_
    exact gx_iret (u := (σ, f)) E hK hP2 hD2 hS (Or.inr ⟨_, hX, hkm, rfl⟩) dLw_set_18
  · have hP : va_P D gC (hpW cI cP cL a ho (u, f)) H := hP.sub [1, 2, 3, 4, 5, 6, 7, 8, 9, 0] rfl
    have hD : va_D A (hpW cI cP cL a ho (u, f)) := hD.sub [1, 2, 3, 4, 5, 6, 7, 8, 9, 0] rfl rfl
    refine lv_i2l hx hb dLw_set_10 rfl ?_
    refine va_last hx hb hK hP hD hS 9 2 rfl rfl (by unfold vp_in; decide) dLw_set_11 (fun H locs hP hD hS => ?_)
    have hP : va_P D gC (hpW cI cP cL a ho (u, vp_updL f 0 r.toInt64)) H := hP
    have hD : va_D A (hpW cI cP cL a ho (u, vp_updL f 0 r.toInt64)) := hD
    refine lv_goto (tgt := 19) hx hb dLw_set_12 (by decide) ?_
    refine lv_iconst (v := 0) hx hb dLw_set_19 (by decide) ?_
    exact gx_iret (u := (u, vp_updL f 0 r.toInt64)) E hK hP hD hS (Or.inl ⟨rfl, r, hq, (show vp_updL f 0 r.toInt64 0 = r.toInt64 from pk_uLs)⟩) dLw_set_20
set_option maxHeartbeats 4000000 in
set_option maxRecDepth 100000 in
theorem hp_get (l : Launch) (hfl : l.stackTraces = false) (D : va_G) (cI cP cL : ClassId) (a : Nat → Nat) (ho : Nat) (σ : nSt) (f : Nat → Int64) (p0 : Int32) (p1 : Int32) (post : Int32 → nSt → Prop) (thr : String → Prop) (hM : gv_M l yNr_get (Cond.code yNr_get cNr_get 4 (some .int) :: gW) (gRc 8 1 6) D gC (nrT cI cP) (nrW cI cP a) σ (.ref (a 0) :: [.int p0, .int p1]) post thr) (hthr : ∀ E, thr E → ∃ c, (E, c) ∈ ([(xNS, 1)] : List (String × Int32))) :
    gz_M l yLw_get (Cond.codeWith yLw_get cLw_get 5 (some .int) [(0, 10, 13, 26)] :: gW) (gRc 9 1 6) D gC (hpT cI cP cL) (hpW cI cP cL a ho) (σ, f) [.ref (a 0), .int p0, .int p1, .ref ho] (hpP σ f post thr [(xNS, 1)]) := by
  refine gz_M.of (cc := cLw_get) (maxL := 5) (ret := some .int) (hh := [(0, 10, 13, 26)]) (by decide) rfl (Nat.le_of_ble_eq_true rfl) ?_
  intro p e s m args below meth c ls A E htb hZ hT hA hK hP hD hS hl
  obtain ⟨hx, hb, hr, hml, hts, hown, hlocks, hnm⟩ := id E
  have hg : ∀ w ∈ gW, w.before args s = true := fun w h => hts w (List.mem_cons_of_mem _ h)
  have hown : s.vm.findClass "NurseryRowLaw" = some m.cls := hown
  have hl : lv_has ls 5 [(0, .ref (a 0)), (1, .int p0), (2, .int p1), (3, .ref ho)] := hl
  refine lv_aload_n hx hb dLw_get_0 rfl (lv_at hl 3 rfl) ?_
  refine lv_iconst (v := 0) hx hb dLw_get_1 (by decide) ?_
  refine lv_aload_n hx hb dLw_get_2 rfl (lv_at hl 0 rfl) ?_
  refine lv_iload_n hx hb dLw_get_3 rfl (lv_at hl 1 rfl) ?_
  refine lv_iload_n hx hb dLw_get_4 rfl (lv_at hl 2 rfl) ?_
  have hKc : va_K D gC (nrT cI cP) s := hK.sub [0, 1] rfl
  refine gv_callS (C := "NurseryRow") (wr := [(ho, .inl (cL, 1, .inr (.inl f)))]) (As := [.int p0, .int p1]) (rest := [.int 0, .ref ho]) E hM (gx_cwV hts l_Lw_28 k_Nr_get ki_Nr_get ke_Nr_get z_Nr n_Nr_get ⟨by decide, by decide⟩) [0, 1, 2, 3, 4, 5, 6, 7, 8] [9] rfl rfl rfl rfl (by decide) hKc hZ hT hP hD hS hA (va_recv hK hP (ci := 1) (q0 := 0) rfl rfl) hl.1 rfl rfl (Nat.le_of_ble_eq_true rfl) ⟨by decide, by decide⟩ dLw_get_5 (fun X ce q9 H locs hX hP hD hS h1 h2 h3 => ?_) (fun r u H locs hq hP hD hS => ?_)
  · obtain ⟨k0, hk0⟩ := hthr X hX
    have hkm := hk0
    obtain ⟨eX, ek⟩ := Prod.mk.inj (List.mem_singleton.mp hk0)
    subst eX; subst ek
    have hP2 : va_P D gC (hpW cI cP cL a ho (σ, f)) H := hP.sub [1, 2, 3, 4, 5, 6, 7, 8, 9, 0] rfl
    have hD2 : va_D A (hpW cI cP cL a ho (σ, f)) := hD.sub [1, 2, 3, 4, 5, 6, 7, 8, 9, 0] rfl rfl
    refine gz_catch1 hown htb (by decide) (by decide) (hg _ kl_Lw_26) (gv_cast hT (by decide +kernel)) h1 h2 h3 ?_
    refine lv_astore (lv' := [(4, .ref q9), (0, .ref (a 0)), (1, .int p0), (2, .int p1), (3, .ref ho)]) hx hb dLw_get_13 hl (by decide) rfl (fun ls hl => ?_)
    refine lv_iconst (v := 1) hx hb dLw_get_15 (by decide) ?_
    exact gx_iret (u := (σ, f)) E hK hP2 hD2 hS (Or.inr ⟨_, hX, hkm, rfl⟩) dLw_get_16
  · have hP : va_P D gC (hpW cI cP cL a ho (u, f)) H := hP.sub [1, 2, 3, 4, 5, 6, 7, 8, 9, 0] rfl
    have hD : va_D A (hpW cI cP cL a ho (u, f)) := hD.sub [1, 2, 3, 4, 5, 6, 7, 8, 9, 0] rfl rfl
    refine lv_i2l hx hb dLw_get_8 rfl ?_
    refine va_last hx hb hK hP hD hS 9 2 rfl rfl (by unfold vp_in; decide) dLw_get_9 (fun H locs hP hD hS => ?_)
    have hP : va_P D gC (hpW cI cP cL a ho (u, vp_updL f 0 r.toInt64)) H := hP
    have hD : va_D A (hpW cI cP cL a ho (u, vp_updL f 0 r.toInt64)) := hD
    refine lv_goto (tgt := 17) hx hb dLw_get_10 (by decide) ?_
    refine lv_iconst (v := 0) hx hb dLw_get_17 (by decide) ?_
    exact gx_iret (u := (u, vp_updL f 0 r.toInt64)) E hK hP hD hS (Or.inl ⟨rfl, r, hq, (show vp_updL f 0 r.toInt64 0 = r.toInt64 from pk_uLs)⟩) dLw_get_18
set_option maxHeartbeats 4000000 in
set_option maxRecDepth 100000 in
theorem hp_put (l : Launch) (hfl : l.stackTraces = false) (D : va_G) (cI cP cL : ClassId) (a : Nat → Nat) (ho : Nat) (σ : nSt) (f : Nat → Int64) (p0 : Int32) (p1 : Int32) (p2 : Int32) (post : Int32 → nSt → Prop) (thr : String → Prop) (hM : gv_M l yNr_put (Cond.code yNr_put cNr_put 5 (some .int) :: gW) (gRc 8 1 6) D gC (nrT cI cP) (nrW cI cP a) σ (.ref (a 0) :: [.int p0, .int p1, .int p2]) post thr) (hthr : ∀ E, thr E → ∃ c, (E, c) ∈ ([(xNS, 1)] : List (String × Int32))) :
    gz_M l yLw_put (Cond.codeWith yLw_put cLw_put 6 (some .int) [(0, 12, 15, 26)] :: gW) (gRc 9 1 6) D gC (hpT cI cP cL) (hpW cI cP cL a ho) (σ, f) [.ref (a 0), .int p0, .int p1, .int p2, .ref ho] (hpP σ f post thr [(xNS, 1)]) := by
  refine gz_M.of (cc := cLw_put) (maxL := 6) (ret := some .int) (hh := [(0, 12, 15, 26)]) (by decide) rfl (Nat.le_of_ble_eq_true rfl) ?_
  intro p e s m args below meth c ls A E htb hZ hT hA hK hP hD hS hl
  obtain ⟨hx, hb, hr, hml, hts, hown, hlocks, hnm⟩ := id E
  have hg : ∀ w ∈ gW, w.before args s = true := fun w h => hts w (List.mem_cons_of_mem _ h)
  have hown : s.vm.findClass "NurseryRowLaw" = some m.cls := hown
  have hl : lv_has ls 6 [(0, .ref (a 0)), (1, .int p0), (2, .int p1), (3, .int p2), (4, .ref ho)] := hl
  refine lv_aload hx hb dLw_put_0 (lv_at hl 4 rfl) ?_
  refine lv_iconst (v := 0) hx hb dLw_put_2 (by decide) ?_
  refine lv_aload_n hx hb dLw_put_3 rfl (lv_at hl 0 rfl) ?_
  refine lv_iload_n hx hb dLw_put_4 rfl (lv_at hl 1 rfl) ?_
  refine lv_iload_n hx hb dLw_put_5 rfl (lv_at hl 2 rfl) ?_
  refine lv_iload_n hx hb dLw_put_6 rfl (lv_at hl 3 rfl) ?_
  have hKc : va_K D gC (nrT cI cP) s := hK.sub [0, 1] rfl
  refine gv_callS (C := "NurseryRow") (wr := [(ho, .inl (cL, 1, .inr (.inl f)))]) (As := [.int p0, .int p1, .int p2]) (rest := [.int 0, .ref ho]) E hM (gx_cwV hts l_Lw_31 k_Nr_put ki_Nr_put ke_Nr_put z_Nr n_Nr_put ⟨by decide, by decide⟩) [0, 1, 2, 3, 4, 5, 6, 7, 8] [9] rfl rfl rfl rfl (by decide) hKc hZ hT hP hD hS hA (va_recv hK hP (ci := 1) (q0 := 0) rfl rfl) hl.1 rfl rfl (Nat.le_of_ble_eq_true rfl) ⟨by decide, by decide⟩ dLw_put_7 (fun X ce q9 H locs hX hP hD hS h1 h2 h3 => ?_) (fun r u H locs hq hP hD hS => ?_)
  · obtain ⟨k0, hk0⟩ := hthr X hX
    have hkm := hk0
    obtain ⟨eX, ek⟩ := Prod.mk.inj (List.mem_singleton.mp hk0)
    subst eX; subst ek
    have hP2 : va_P D gC (hpW cI cP cL a ho (σ, f)) H := hP.sub [1, 2, 3, 4, 5, 6, 7, 8, 9, 0] rfl
    have hD2 : va_D A (hpW cI cP cL a ho (σ, f)) := hD.sub [1, 2, 3, 4, 5, 6, 7, 8, 9, 0] rfl rfl
    refine gz_catch1 hown htb (by decide) (by decide) (hg _ kl_Lw_26) (gv_cast hT (by decide +kernel)) h1 h2 h3 ?_
    refine lv_astore (lv' := [(5, .ref q9), (0, .ref (a 0)), (1, .int p0), (2, .int p1), (3, .int p2), (4, .ref ho)]) hx hb dLw_put_15 hl (by decide) rfl (fun ls hl => ?_)
    refine lv_iconst (v := 1) hx hb dLw_put_17 (by decide) ?_
    exact gx_iret (u := (σ, f)) E hK hP2 hD2 hS (Or.inr ⟨_, hX, hkm, rfl⟩) dLw_put_18
  · have hP : va_P D gC (hpW cI cP cL a ho (u, f)) H := hP.sub [1, 2, 3, 4, 5, 6, 7, 8, 9, 0] rfl
    have hD : va_D A (hpW cI cP cL a ho (u, f)) := hD.sub [1, 2, 3, 4, 5, 6, 7, 8, 9, 0] rfl rfl
    refine lv_i2l hx hb dLw_put_10 rfl ?_
    refine va_last hx hb hK hP hD hS 9 2 rfl rfl (by unfold vp_in; decide) dLw_put_11 (fun H locs hP hD hS => ?_)
    have hP : va_P D gC (hpW cI cP cL a ho (u, vp_updL f 0 r.toInt64)) H := hP
    have hD : va_D A (hpW cI cP cL a ho (u, vp_updL f 0 r.toInt64)) := hD
    refine lv_goto (tgt := 19) hx hb dLw_put_12 (by decide) ?_
    refine lv_iconst (v := 0) hx hb dLw_put_19 (by decide) ?_
    exact gx_iret (u := (u, vp_updL f 0 r.toInt64)) E hK hP hD hS (Or.inl ⟨rfl, r, hq, (show vp_updL f 0 r.toInt64 0 = r.toInt64 from pk_uLs)⟩) dLw_put_20
set_option maxHeartbeats 4000000 in
set_option maxRecDepth 100000 in
theorem hp_word (l : Launch) (hfl : l.stackTraces = false) (D : va_G) (cI cP cL : ClassId) (a : Nat → Nat) (ho : Nat) (σ : nSt) (f : Nat → Int64) (p0 : Int32) (p1 : Int32) (post : Int32 → nSt → Prop) (thr : String → Prop) (hM : gv_M l yNr_word (Cond.code yNr_word cNr_word 4 (some .int) :: gW) (gRc 8 1 6) D gC (nrT cI cP) (nrW cI cP a) σ (.ref (a 0) :: [.int p0, .int p1]) post thr) (hthr : ∀ E, thr E → ∃ c, (E, c) ∈ ([(xNS, 1)] : List (String × Int32))) :
    gz_M l yLw_word (Cond.codeWith yLw_word cLw_word 5 (some .int) [(0, 10, 13, 26)] :: gW) (gRc 9 1 6) D gC (hpT cI cP cL) (hpW cI cP cL a ho) (σ, f) [.ref (a 0), .int p0, .int p1, .ref ho] (hpP σ f post thr [(xNS, 1)]) := by
  refine gz_M.of (cc := cLw_word) (maxL := 5) (ret := some .int) (hh := [(0, 10, 13, 26)]) (by decide) rfl (Nat.le_of_ble_eq_true rfl) ?_
  intro p e s m args below meth c ls A E htb hZ hT hA hK hP hD hS hl
  obtain ⟨hx, hb, hr, hml, hts, hown, hlocks, hnm⟩ := id E
  have hg : ∀ w ∈ gW, w.before args s = true := fun w h => hts w (List.mem_cons_of_mem _ h)
  have hown : s.vm.findClass "NurseryRowLaw" = some m.cls := hown
  have hl : lv_has ls 5 [(0, .ref (a 0)), (1, .int p0), (2, .int p1), (3, .ref ho)] := hl
  refine lv_aload_n hx hb dLw_word_0 rfl (lv_at hl 3 rfl) ?_
  refine lv_iconst (v := 0) hx hb dLw_word_1 (by decide) ?_
  refine lv_aload_n hx hb dLw_word_2 rfl (lv_at hl 0 rfl) ?_
  refine lv_iload_n hx hb dLw_word_3 rfl (lv_at hl 1 rfl) ?_
  refine lv_iload_n hx hb dLw_word_4 rfl (lv_at hl 2 rfl) ?_
  have hKc : va_K D gC (nrT cI cP) s := hK.sub [0, 1] rfl
  refine gv_callS (C := "NurseryRow") (wr := [(ho, .inl (cL, 1, .inr (.inl f)))]) (As := [.int p0, .int p1]) (rest := [.int 0, .ref ho]) E hM (gx_cwV hts l_Lw_34 k_Nr_word ki_Nr_word ke_Nr_word z_Nr n_Nr_word ⟨by decide, by decide⟩) [0, 1, 2, 3, 4, 5, 6, 7, 8] [9] rfl rfl rfl rfl (by decide) hKc hZ hT hP hD hS hA (va_recv hK hP (ci := 1) (q0 := 0) rfl rfl) hl.1 rfl rfl (Nat.le_of_ble_eq_true rfl) ⟨by decide, by decide⟩ dLw_word_5 (fun X ce q9 H locs hX hP hD hS h1 h2 h3 => ?_) (fun r u H locs hq hP hD hS => ?_)
  · obtain ⟨k0, hk0⟩ := hthr X hX
    have hkm := hk0
    obtain ⟨eX, ek⟩ := Prod.mk.inj (List.mem_singleton.mp hk0)
    subst eX; subst ek
    have hP2 : va_P D gC (hpW cI cP cL a ho (σ, f)) H := hP.sub [1, 2, 3, 4, 5, 6, 7, 8, 9, 0] rfl
    have hD2 : va_D A (hpW cI cP cL a ho (σ, f)) := hD.sub [1, 2, 3, 4, 5, 6, 7, 8, 9, 0] rfl rfl
    refine gz_catch1 hown htb (by decide) (by decide) (hg _ kl_Lw_26) (gv_cast hT (by decide +kernel)) h1 h2 h3 ?_
    refine lv_astore (lv' := [(4, .ref q9), (0, .ref (a 0)), (1, .int p0), (2, .int p1), (3, .ref ho)]) hx hb dLw_word_13 hl (by decide) rfl (fun ls hl => ?_)
    refine lv_iconst (v := 1) hx hb dLw_word_15 (by decide) ?_
    exact gx_iret (u := (σ, f)) E hK hP2 hD2 hS (Or.inr ⟨_, hX, hkm, rfl⟩) dLw_word_16
  · have hP : va_P D gC (hpW cI cP cL a ho (u, f)) H := hP.sub [1, 2, 3, 4, 5, 6, 7, 8, 9, 0] rfl
    have hD : va_D A (hpW cI cP cL a ho (u, f)) := hD.sub [1, 2, 3, 4, 5, 6, 7, 8, 9, 0] rfl rfl
    refine lv_i2l hx hb dLw_word_8 rfl ?_
    refine va_last hx hb hK hP hD hS 9 2 rfl rfl (by unfold vp_in; decide) dLw_word_9 (fun H locs hP hD hS => ?_)
    have hP : va_P D gC (hpW cI cP cL a ho (u, vp_updL f 0 r.toInt64)) H := hP
    have hD : va_D A (hpW cI cP cL a ho (u, vp_updL f 0 r.toInt64)) := hD
    refine lv_goto (tgt := 17) hx hb dLw_word_10 (by decide) ?_
    refine lv_iconst (v := 0) hx hb dLw_word_17 (by decide) ?_
    exact gx_iret (u := (u, vp_updL f 0 r.toInt64)) E hK hP hD hS (Or.inl ⟨rfl, r, hq, (show vp_updL f 0 r.toInt64 0 = r.toInt64 from pk_uLs)⟩) dLw_word_18
set_option maxHeartbeats 4000000 in
set_option maxRecDepth 100000 in
theorem hp_root (l : Launch) (hfl : l.stackTraces = false) (D : va_G) (cI cP cL : ClassId) (a : Nat → Nat) (ho : Nat) (σ : nSt) (f : Nat → Int64) (p0 : Int32) (p1 : Int32) (post : Int32 → nSt → Prop) (thr : String → Prop) (hM : gv_M l yNr_root (Cond.code yNr_root cNr_root 4 (some .int) :: gW) (gRc 8 1 6) D gC (nrT cI cP) (nrW cI cP a) σ (.ref (a 0) :: [.int p0, .int p1]) post thr) (hthr : ∀ E, thr E → ∃ c, (E, c) ∈ ([(xNS, 1)] : List (String × Int32))) :
    gz_M l yLw_root (Cond.codeWith yLw_root cLw_root 5 (some .int) [(0, 10, 13, 26)] :: gW) (gRc 9 1 6) D gC (hpT cI cP cL) (hpW cI cP cL a ho) (σ, f) [.ref (a 0), .int p0, .int p1, .ref ho] (hpP σ f post thr [(xNS, 1)]) := by
  refine gz_M.of (cc := cLw_root) (maxL := 5) (ret := some .int) (hh := [(0, 10, 13, 26)]) (by decide) rfl (Nat.le_of_ble_eq_true rfl) ?_
  intro p e s m args below meth c ls A E htb hZ hT hA hK hP hD hS hl
  obtain ⟨hx, hb, hr, hml, hts, hown, hlocks, hnm⟩ := id E
  have hg : ∀ w ∈ gW, w.before args s = true := fun w h => hts w (List.mem_cons_of_mem _ h)
  have hown : s.vm.findClass "NurseryRowLaw" = some m.cls := hown
  have hl : lv_has ls 5 [(0, .ref (a 0)), (1, .int p0), (2, .int p1), (3, .ref ho)] := hl
  refine lv_aload_n hx hb dLw_root_0 rfl (lv_at hl 3 rfl) ?_
  refine lv_iconst (v := 0) hx hb dLw_root_1 (by decide) ?_
  refine lv_aload_n hx hb dLw_root_2 rfl (lv_at hl 0 rfl) ?_
  refine lv_iload_n hx hb dLw_root_3 rfl (lv_at hl 1 rfl) ?_
  refine lv_iload_n hx hb dLw_root_4 rfl (lv_at hl 2 rfl) ?_
  have hKc : va_K D gC (nrT cI cP) s := hK.sub [0, 1] rfl
  refine gv_callS (C := "NurseryRow") (wr := [(ho, .inl (cL, 1, .inr (.inl f)))]) (As := [.int p0, .int p1]) (rest := [.int 0, .ref ho]) E hM (gx_cwV hts l_Lw_37 k_Nr_root ki_Nr_root ke_Nr_root z_Nr n_Nr_root ⟨by decide, by decide⟩) [0, 1, 2, 3, 4, 5, 6, 7, 8] [9] rfl rfl rfl rfl (by decide) hKc hZ hT hP hD hS hA (va_recv hK hP (ci := 1) (q0 := 0) rfl rfl) hl.1 rfl rfl (Nat.le_of_ble_eq_true rfl) ⟨by decide, by decide⟩ dLw_root_5 (fun X ce q9 H locs hX hP hD hS h1 h2 h3 => ?_) (fun r u H locs hq hP hD hS => ?_)
  · obtain ⟨k0, hk0⟩ := hthr X hX
    have hkm := hk0
    obtain ⟨eX, ek⟩ := Prod.mk.inj (List.mem_singleton.mp hk0)
    subst eX; subst ek
    have hP2 : va_P D gC (hpW cI cP cL a ho (σ, f)) H := hP.sub [1, 2, 3, 4, 5, 6, 7, 8, 9, 0] rfl
    have hD2 : va_D A (hpW cI cP cL a ho (σ, f)) := hD.sub [1, 2, 3, 4, 5, 6, 7, 8, 9, 0] rfl rfl
    refine gz_catch1 hown htb (by decide) (by decide) (hg _ kl_Lw_26) (gv_cast hT (by decide +kernel)) h1 h2 h3 ?_
    refine lv_astore (lv' := [(4, .ref q9), (0, .ref (a 0)), (1, .int p0), (2, .int p1), (3, .ref ho)]) hx hb dLw_root_13 hl (by decide) rfl (fun ls hl => ?_)
    refine lv_iconst (v := 1) hx hb dLw_root_15 (by decide) ?_
    exact gx_iret (u := (σ, f)) E hK hP2 hD2 hS (Or.inr ⟨_, hX, hkm, rfl⟩) dLw_root_16
  · have hP : va_P D gC (hpW cI cP cL a ho (u, f)) H := hP.sub [1, 2, 3, 4, 5, 6, 7, 8, 9, 0] rfl
    have hD : va_D A (hpW cI cP cL a ho (u, f)) := hD.sub [1, 2, 3, 4, 5, 6, 7, 8, 9, 0] rfl rfl
    refine lv_i2l hx hb dLw_root_8 rfl ?_
    refine va_last hx hb hK hP hD hS 9 2 rfl rfl (by unfold vp_in; decide) dLw_root_9 (fun H locs hP hD hS => ?_)
    have hP : va_P D gC (hpW cI cP cL a ho (u, vp_updL f 0 r.toInt64)) H := hP
    have hD : va_D A (hpW cI cP cL a ho (u, vp_updL f 0 r.toInt64)) := hD
    refine lv_goto (tgt := 17) hx hb dLw_root_10 (by decide) ?_
    refine lv_iconst (v := 0) hx hb dLw_root_17 (by decide) ?_
    exact gx_iret (u := (u, vp_updL f 0 r.toInt64)) E hK hP hD hS (Or.inl ⟨rfl, r, hq, (show vp_updL f 0 r.toInt64 0 = r.toInt64 from pk_uLs)⟩) dLw_root_18
set_option maxHeartbeats 4000000 in
set_option maxRecDepth 100000 in
theorem hp_rooted (l : Launch) (hfl : l.stackTraces = false) (D : va_G) (cI cP cL : ClassId) (a : Nat → Nat) (ho : Nat) (σ : nSt) (f : Nat → Int64) (p0 : Int32) (post : Int32 → nSt → Prop) (thr : String → Prop) (hM : gv_M l yNr_rooted (Cond.code yNr_rooted cNr_rooted 2 (some .int) :: gW) (gRc 8 1 6) D gC (nrT cI cP) (nrW cI cP a) σ (.ref (a 0) :: [.int p0]) post thr) (hthr : ∀ E, thr E → ∃ c, (E, c) ∈ ([(xNS, 1)] : List (String × Int32))) :
    gz_M l yLw_rooted (Cond.codeWith yLw_rooted cLw_rooted 4 (some .int) [(0, 9, 12, 26)] :: gW) (gRc 9 1 6) D gC (hpT cI cP cL) (hpW cI cP cL a ho) (σ, f) [.ref (a 0), .int p0, .ref ho] (hpP σ f post thr [(xNS, 1)]) := by
  refine gz_M.of (cc := cLw_rooted) (maxL := 4) (ret := some .int) (hh := [(0, 9, 12, 26)]) (by decide) rfl (Nat.le_of_ble_eq_true rfl) ?_
  intro p e s m args below meth c ls A E htb hZ hT hA hK hP hD hS hl
  obtain ⟨hx, hb, hr, hml, hts, hown, hlocks, hnm⟩ := id E
  have hg : ∀ w ∈ gW, w.before args s = true := fun w h => hts w (List.mem_cons_of_mem _ h)
  have hown : s.vm.findClass "NurseryRowLaw" = some m.cls := hown
  have hl : lv_has ls 4 [(0, .ref (a 0)), (1, .int p0), (2, .ref ho)] := hl
  refine lv_aload_n hx hb dLw_rooted_0 rfl (lv_at hl 2 rfl) ?_
  refine lv_iconst (v := 0) hx hb dLw_rooted_1 (by decide) ?_
  refine lv_aload_n hx hb dLw_rooted_2 rfl (lv_at hl 0 rfl) ?_
  refine lv_iload_n hx hb dLw_rooted_3 rfl (lv_at hl 1 rfl) ?_
  have hKc : va_K D gC (nrT cI cP) s := hK.sub [0, 1] rfl
  refine gv_callS (C := "NurseryRow") (wr := [(ho, .inl (cL, 1, .inr (.inl f)))]) (As := [.int p0]) (rest := [.int 0, .ref ho]) E hM (gx_cwV hts l_Lw_40 k_Nr_rooted ki_Nr_rooted ke_Nr_rooted z_Nr n_Nr_rooted ⟨by decide, by decide⟩) [0, 1, 2, 3, 4, 5, 6, 7, 8] [9] rfl rfl rfl rfl (by decide) hKc hZ hT hP hD hS hA (va_recv hK hP (ci := 1) (q0 := 0) rfl rfl) hl.1 rfl rfl (Nat.le_of_ble_eq_true rfl) ⟨by decide, by decide⟩ dLw_rooted_4 (fun X ce q9 H locs hX hP hD hS h1 h2 h3 => ?_) (fun r u H locs hq hP hD hS => ?_)
  · obtain ⟨k0, hk0⟩ := hthr X hX
    have hkm := hk0
    obtain ⟨eX, ek⟩ := Prod.mk.inj (List.mem_singleton.mp hk0)
    subst eX; subst ek
    have hP2 : va_P D gC (hpW cI cP cL a ho (σ, f)) H := hP.sub [1, 2, 3, 4, 5, 6, 7, 8, 9, 0] rfl
    have hD2 : va_D A (hpW cI cP cL a ho (σ, f)) := hD.sub [1, 2, 3, 4, 5, 6, 7, 8, 9, 0] rfl rfl
    refine gz_catch1 hown htb (by decide) (by decide) (hg _ kl_Lw_26) (gv_cast hT (by decide +kernel)) h1 h2 h3 ?_
    refine lv_astore_n (lv' := [(3, .ref q9), (0, .ref (a 0)), (1, .int p0), (2, .ref ho)]) hx hb dLw_rooted_12 rfl hl (by decide) rfl (fun ls hl => ?_)
    refine lv_iconst (v := 1) hx hb dLw_rooted_13 (by decide) ?_
    exact gx_iret (u := (σ, f)) E hK hP2 hD2 hS (Or.inr ⟨_, hX, hkm, rfl⟩) dLw_rooted_14
  · have hP : va_P D gC (hpW cI cP cL a ho (u, f)) H := hP.sub [1, 2, 3, 4, 5, 6, 7, 8, 9, 0] rfl
    have hD : va_D A (hpW cI cP cL a ho (u, f)) := hD.sub [1, 2, 3, 4, 5, 6, 7, 8, 9, 0] rfl rfl
    refine lv_i2l hx hb dLw_rooted_7 rfl ?_
    refine va_last hx hb hK hP hD hS 9 2 rfl rfl (by unfold vp_in; decide) dLw_rooted_8 (fun H locs hP hD hS => ?_)
    have hP : va_P D gC (hpW cI cP cL a ho (u, vp_updL f 0 r.toInt64)) H := hP
    have hD : va_D A (hpW cI cP cL a ho (u, vp_updL f 0 r.toInt64)) := hD
    refine lv_goto (tgt := 15) hx hb dLw_rooted_9 (by decide) ?_
    refine lv_iconst (v := 0) hx hb dLw_rooted_15 (by decide) ?_
    exact gx_iret (u := (u, vp_updL f 0 r.toInt64)) E hK hP hD hS (Or.inl ⟨rfl, r, hq, (show vp_updL f 0 r.toInt64 0 = r.toInt64 from pk_uLs)⟩) dLw_rooted_16
set_option maxHeartbeats 4000000 in
set_option maxRecDepth 100000 in
theorem hp_collect (l : Launch) (hfl : l.stackTraces = false) (D : va_G) (cI cP cL : ClassId) (a : Nat → Nat) (ho : Nat) (σ : nSt) (f : Nat → Int64) (post : Int32 → nSt → Prop) (thr : String → Prop) (hM : gv_M l yNr_collect (Cond.code yNr_collect cNr_collect 4 (some .int) :: gW) (gRc 8 1 6) D gC (nrT cI cP) (nrW cI cP a) σ (.ref (a 0) :: []) post thr) (hthr : ∀ E, thr E → ∃ c, (E, c) ∈ ([(xIS, 1)] : List (String × Int32))) :
    gz_M l yLw_collect (Cond.codeWith yLw_collect cLw_collect 3 (some .int) [(0, 8, 11, 47)] :: gW) (gRc 9 1 6) D gC (hpT cI cP cL) (hpW cI cP cL a ho) (σ, f) [.ref (a 0), .ref ho] (hpP σ f post thr [(xIS, 1)]) := by
  refine gz_M.of (cc := cLw_collect) (maxL := 3) (ret := some .int) (hh := [(0, 8, 11, 47)]) (by decide) rfl (Nat.le_of_ble_eq_true rfl) ?_
  intro p e s m args below meth c ls A E htb hZ hT hA hK hP hD hS hl
  obtain ⟨hx, hb, hr, hml, hts, hown, hlocks, hnm⟩ := id E
  have hg : ∀ w ∈ gW, w.before args s = true := fun w h => hts w (List.mem_cons_of_mem _ h)
  have hown : s.vm.findClass "NurseryRowLaw" = some m.cls := hown
  have hl : lv_has ls 3 [(0, .ref (a 0)), (1, .ref ho)] := hl
  refine lv_aload_n hx hb dLw_collect_0 rfl (lv_at hl 1 rfl) ?_
  refine lv_iconst (v := 0) hx hb dLw_collect_1 (by decide) ?_
  refine lv_aload_n hx hb dLw_collect_2 rfl (lv_at hl 0 rfl) ?_
  have hKc : va_K D gC (nrT cI cP) s := hK.sub [0, 1] rfl
  refine gv_callS (C := "NurseryRow") (wr := [(ho, .inl (cL, 1, .inr (.inl f)))]) (As := []) (rest := [.int 0, .ref ho]) E hM (gx_cwV hts l_Lw_43 k_Nr_collect ki_Nr_collect ke_Nr_collect z_Nr n_Nr_collect ⟨by decide, by decide⟩) [0, 1, 2, 3, 4, 5, 6, 7, 8] [9] rfl rfl rfl rfl (by decide) hKc hZ hT hP hD hS hA (va_recv hK hP (ci := 1) (q0 := 0) rfl rfl) hl.1 rfl rfl (Nat.le_of_ble_eq_true rfl) ⟨by decide, by decide⟩ dLw_collect_3 (fun X ce q9 H locs hX hP hD hS h1 h2 h3 => ?_) (fun r u H locs hq hP hD hS => ?_)
  · obtain ⟨k0, hk0⟩ := hthr X hX
    have hkm := hk0
    obtain ⟨eX, ek⟩ := Prod.mk.inj (List.mem_singleton.mp hk0)
    subst eX; subst ek
    have hP2 : va_P D gC (hpW cI cP cL a ho (σ, f)) H := hP.sub [1, 2, 3, 4, 5, 6, 7, 8, 9, 0] rfl
    have hD2 : va_D A (hpW cI cP cL a ho (σ, f)) := hD.sub [1, 2, 3, 4, 5, 6, 7, 8, 9, 0] rfl rfl
    refine gz_catch1 hown htb (by decide) (by decide) (hg _ kl_Lw_47) (gv_cast hT (by decide +kernel)) h1 h2 h3 ?_
    refine lv_astore_n (lv' := [(2, .ref q9), (0, .ref (a 0)), (1, .ref ho)]) hx hb dLw_collect_11 rfl hl (by decide) rfl (fun ls hl => ?_)
    refine lv_iconst (v := 1) hx hb dLw_collect_12 (by decide) ?_
    exact gx_iret (u := (σ, f)) E hK hP2 hD2 hS (Or.inr ⟨_, hX, hkm, rfl⟩) dLw_collect_13
  · have hP : va_P D gC (hpW cI cP cL a ho (u, f)) H := hP.sub [1, 2, 3, 4, 5, 6, 7, 8, 9, 0] rfl
    have hD : va_D A (hpW cI cP cL a ho (u, f)) := hD.sub [1, 2, 3, 4, 5, 6, 7, 8, 9, 0] rfl rfl
    refine lv_i2l hx hb dLw_collect_6 rfl ?_
    refine va_last hx hb hK hP hD hS 9 2 rfl rfl (by unfold vp_in; decide) dLw_collect_7 (fun H locs hP hD hS => ?_)
    have hP : va_P D gC (hpW cI cP cL a ho (u, vp_updL f 0 r.toInt64)) H := hP
    have hD : va_D A (hpW cI cP cL a ho (u, vp_updL f 0 r.toInt64)) := hD
    refine lv_goto (tgt := 14) hx hb dLw_collect_8 (by decide) ?_
    refine lv_iconst (v := 0) hx hb dLw_collect_14 (by decide) ?_
    exact gx_iret (u := (u, vp_updL f 0 r.toInt64)) E hK hP hD hS (Or.inl ⟨rfl, r, hq, (show vp_updL f 0 r.toInt64 0 = r.toInt64 from pk_uLs)⟩) dLw_collect_15
set_option maxHeartbeats 4000000 in
set_option maxRecDepth 100000 in
theorem hp_about (l : Launch) (hfl : l.stackTraces = false) (D : va_G) (cI cP cL : ClassId) (a : Nat → Nat) (ho : Nat) (σ : nSt) (f : Nat → Int64) (p0 : Int32) (p1 : Int32) (post : Int32 → nSt → Prop) (thr : String → Prop) (hM : gv_M l yNr_about (Cond.code yNr_about cNr_about 3 (some .int) :: gW) (gRc 8 1 6) D gC (nrT cI cP) (nrW cI cP a) σ (.ref (a 0) :: [.int p0, .int p1]) post thr) (hthr : ∀ E, thr E → ∃ c, (E, c) ∈ ([(xNS, 1), (xIA, 2)] : List (String × Int32))) :
    gz_M l yLw_about (Cond.codeWith yLw_about cLw_about 5 (some .int) [(0, 10, 13, 26), (0, 10, 17, 13)] :: gW) (gRc 9 1 6) D gC (hpT cI cP cL) (hpW cI cP cL a ho) (σ, f) [.ref (a 0), .int p0, .int p1, .ref ho] (hpP σ f post thr [(xNS, 1), (xIA, 2)]) := by
  refine gz_M.of (cc := cLw_about) (maxL := 5) (ret := some .int) (hh := [(0, 10, 13, 26), (0, 10, 17, 13)]) (by decide) rfl (Nat.le_of_ble_eq_true rfl) ?_
  intro p e s m args below meth c ls A E htb hZ hT hA hK hP hD hS hl
  obtain ⟨hx, hb, hr, hml, hts, hown, hlocks, hnm⟩ := id E
  have hg : ∀ w ∈ gW, w.before args s = true := fun w h => hts w (List.mem_cons_of_mem _ h)
  have hown : s.vm.findClass "NurseryRowLaw" = some m.cls := hown
  have hl : lv_has ls 5 [(0, .ref (a 0)), (1, .int p0), (2, .int p1), (3, .ref ho)] := hl
  refine lv_aload_n hx hb dLw_about_0 rfl (lv_at hl 3 rfl) ?_
  refine lv_iconst (v := 0) hx hb dLw_about_1 (by decide) ?_
  refine lv_aload_n hx hb dLw_about_2 rfl (lv_at hl 0 rfl) ?_
  refine lv_iload_n hx hb dLw_about_3 rfl (lv_at hl 1 rfl) ?_
  refine lv_iload_n hx hb dLw_about_4 rfl (lv_at hl 2 rfl) ?_
  have hKc : va_K D gC (nrT cI cP) s := hK.sub [0, 1] rfl
  refine gv_callS (C := "NurseryRow") (wr := [(ho, .inl (cL, 1, .inr (.inl f)))]) (As := [.int p0, .int p1]) (rest := [.int 0, .ref ho]) E hM (gx_cwV hts l_Lw_49 k_Nr_about ki_Nr_about ke_Nr_about z_Nr n_Nr_about ⟨by decide, by decide⟩) [0, 1, 2, 3, 4, 5, 6, 7, 8] [9] rfl rfl rfl rfl (by decide) hKc hZ hT hP hD hS hA (va_recv hK hP (ci := 1) (q0 := 0) rfl rfl) hl.1 rfl rfl (Nat.le_of_ble_eq_true rfl) ⟨by decide, by decide⟩ dLw_about_5 (fun X ce q9 H locs hX hP hD hS h1 h2 h3 => ?_) (fun r u H locs hq hP hD hS => ?_)
  · obtain ⟨k0, hk0⟩ := hthr X hX
    rcases List.mem_cons.mp hk0 with hk0 | hk0
    · have hkm : (X, k0) ∈ ([(xNS, 1), (xIA, 2)] : List (String × Int32)) := by rw [hk0]; decide
      obtain ⟨eX, ek⟩ := Prod.mk.inj hk0
      subst eX; subst ek
      have hP2 : va_P D gC (hpW cI cP cL a ho (σ, f)) H := hP.sub [1, 2, 3, 4, 5, 6, 7, 8, 9, 0] rfl
      have hD2 : va_D A (hpW cI cP cL a ho (σ, f)) := hD.sub [1, 2, 3, 4, 5, 6, 7, 8, 9, 0] rfl rfl
      refine vx_catch hown [] ⟨0, 10, 13, 26⟩ [⟨0, 10, 17, 13⟩] htb (fun _ h => absurd h List.not_mem_nil) (by decide) (by decide) (hg _ kl_Lw_26) (gv_cast hT (by decide +kernel)) h1 h2 h3 ?_
      refine lv_astore (lv' := [(4, .ref q9), (0, .ref (a 0)), (1, .int p0), (2, .int p1), (3, .ref ho)]) hx hb dLw_about_13 hl (by decide) rfl (fun ls hl => ?_)
      refine lv_iconst (v := 1) hx hb dLw_about_15 (by decide) ?_
      exact gx_iret (u := (σ, f)) E hK hP2 hD2 hS (Or.inr ⟨_, hX, hkm, rfl⟩) dLw_about_16
    · have hkm : (X, k0) ∈ ([(xNS, 1), (xIA, 2)] : List (String × Int32)) := List.mem_cons_of_mem _ hk0
      obtain ⟨eX, ek⟩ := Prod.mk.inj (List.mem_singleton.mp hk0)
      subst eX; subst ek
      have hP2 : va_P D gC (hpW cI cP cL a ho (σ, f)) H := hP.sub [1, 2, 3, 4, 5, 6, 7, 8, 9, 0] rfl
      have hD2 : va_D A (hpW cI cP cL a ho (σ, f)) := hD.sub [1, 2, 3, 4, 5, 6, 7, 8, 9, 0] rfl rfl
      refine vx_catch hown [⟨0, 10, 13, 26⟩] ⟨0, 10, 17, 13⟩ [] htb (fun z hz => by rw [List.mem_singleton.mp hz]; exact Or.inr ⟨by decide, _, hg _ kl_Lw_26, hT.2.2⟩) (by decide) (by decide) (hg _ kl_Lw_13) (gv_cast hT (by decide +kernel)) h1 h2 h3 ?_
      refine lv_astore (lv' := [(4, .ref q9), (0, .ref (a 0)), (1, .int p0), (2, .int p1), (3, .ref ho)]) hx hb dLw_about_17 hl (by decide) rfl (fun ls hl => ?_)
      refine lv_iconst (v := 2) hx hb dLw_about_19 (by decide) ?_
      exact gx_iret (u := (σ, f)) E hK hP2 hD2 hS (Or.inr ⟨_, hX, hkm, rfl⟩) dLw_about_20
  · have hP : va_P D gC (hpW cI cP cL a ho (u, f)) H := hP.sub [1, 2, 3, 4, 5, 6, 7, 8, 9, 0] rfl
    have hD : va_D A (hpW cI cP cL a ho (u, f)) := hD.sub [1, 2, 3, 4, 5, 6, 7, 8, 9, 0] rfl rfl
    refine lv_i2l hx hb dLw_about_8 rfl ?_
    refine va_last hx hb hK hP hD hS 9 2 rfl rfl (by unfold vp_in; decide) dLw_about_9 (fun H locs hP hD hS => ?_)
    have hP : va_P D gC (hpW cI cP cL a ho (u, vp_updL f 0 r.toInt64)) H := hP
    have hD : va_D A (hpW cI cP cL a ho (u, vp_updL f 0 r.toInt64)) := hD
    refine lv_goto (tgt := 21) hx hb dLw_about_10 (by decide) ?_
    refine lv_iconst (v := 0) hx hb dLw_about_21 (by decide) ?_
    exact gx_iret (u := (u, vp_updL f 0 r.toInt64)) E hK hP hD hS (Or.inl ⟨rfl, r, hq, (show vp_updL f 0 r.toInt64 0 = r.toInt64 from pk_uLs)⟩) dLw_about_22
set_option maxHeartbeats 4000000 in
set_option maxRecDepth 100000 in
theorem hp_next (l : Launch) (hfl : l.stackTraces = false) (D : va_G) (cI cP cL : ClassId) (a : Nat → Nat) (ho : Nat) (σ : nSt) (f : Nat → Int64) (p0 : Int32) (post : Int32 → nSt → Prop) (thr : String → Prop) (hM : gv_M l yNr_next (Cond.code yNr_next cNr_next 4 (some .int) :: gW) (gRc 8 1 6) D gC (nrT cI cP) (nrW cI cP a) σ (.ref (a 0) :: [.int p0]) post thr) (hthr : ∀ E, thr E → ∃ c, (E, c) ∈ ([(xNS, 1)] : List (String × Int32))) :
    gz_M l yLw_next (Cond.codeWith yLw_next cLw_next 4 (some .int) [(0, 9, 12, 26)] :: gW) (gRc 9 1 6) D gC (hpT cI cP cL) (hpW cI cP cL a ho) (σ, f) [.ref (a 0), .int p0, .ref ho] (hpP σ f post thr [(xNS, 1)]) := by
  refine gz_M.of (cc := cLw_next) (maxL := 4) (ret := some .int) (hh := [(0, 9, 12, 26)]) (by decide) rfl (Nat.le_of_ble_eq_true rfl) ?_
  intro p e s m args below meth c ls A E htb hZ hT hA hK hP hD hS hl
  obtain ⟨hx, hb, hr, hml, hts, hown, hlocks, hnm⟩ := id E
  have hg : ∀ w ∈ gW, w.before args s = true := fun w h => hts w (List.mem_cons_of_mem _ h)
  have hown : s.vm.findClass "NurseryRowLaw" = some m.cls := hown
  have hl : lv_has ls 4 [(0, .ref (a 0)), (1, .int p0), (2, .ref ho)] := hl
  refine lv_aload_n hx hb dLw_next_0 rfl (lv_at hl 2 rfl) ?_
  refine lv_iconst (v := 0) hx hb dLw_next_1 (by decide) ?_
  refine lv_aload_n hx hb dLw_next_2 rfl (lv_at hl 0 rfl) ?_
  refine lv_iload_n hx hb dLw_next_3 rfl (lv_at hl 1 rfl) ?_
  have hKc : va_K D gC (nrT cI cP) s := hK.sub [0, 1] rfl
  refine gv_callS (C := "NurseryRow") (wr := [(ho, .inl (cL, 1, .inr (.inl f)))]) (As := [.int p0]) (rest := [.int 0, .ref ho]) E hM (gx_cwV hts l_Lw_52 k_Nr_next ki_Nr_next ke_Nr_next z_Nr n_Nr_next ⟨by decide, by decide⟩) [0, 1, 2, 3, 4, 5, 6, 7, 8] [9] rfl rfl rfl rfl (by decide) hKc hZ hT hP hD hS hA (va_recv hK hP (ci := 1) (q0 := 0) rfl rfl) hl.1 rfl rfl (Nat.le_of_ble_eq_true rfl) ⟨by decide, by decide⟩ dLw_next_4 (fun X ce q9 H locs hX hP hD hS h1 h2 h3 => ?_) (fun r u H locs hq hP hD hS => ?_)
  · obtain ⟨k0, hk0⟩ := hthr X hX
    have hkm := hk0
    obtain ⟨eX, ek⟩ := Prod.mk.inj (List.mem_singleton.mp hk0)
    subst eX; subst ek
    have hP2 : va_P D gC (hpW cI cP cL a ho (σ, f)) H := hP.sub [1, 2, 3, 4, 5, 6, 7, 8, 9, 0] rfl
    have hD2 : va_D A (hpW cI cP cL a ho (σ, f)) := hD.sub [1, 2, 3, 4, 5, 6, 7, 8, 9, 0] rfl rfl
    refine gz_catch1 hown htb (by decide) (by decide) (hg _ kl_Lw_26) (gv_cast hT (by decide +kernel)) h1 h2 h3 ?_
    refine lv_astore_n (lv' := [(3, .ref q9), (0, .ref (a 0)), (1, .int p0), (2, .ref ho)]) hx hb dLw_next_12 rfl hl (by decide) rfl (fun ls hl => ?_)
    refine lv_iconst (v := 1) hx hb dLw_next_13 (by decide) ?_
    exact gx_iret (u := (σ, f)) E hK hP2 hD2 hS (Or.inr ⟨_, hX, hkm, rfl⟩) dLw_next_14
  · have hP : va_P D gC (hpW cI cP cL a ho (u, f)) H := hP.sub [1, 2, 3, 4, 5, 6, 7, 8, 9, 0] rfl
    have hD : va_D A (hpW cI cP cL a ho (u, f)) := hD.sub [1, 2, 3, 4, 5, 6, 7, 8, 9, 0] rfl rfl
    refine lv_i2l hx hb dLw_next_7 rfl ?_
    refine va_last hx hb hK hP hD hS 9 2 rfl rfl (by unfold vp_in; decide) dLw_next_8 (fun H locs hP hD hS => ?_)
    have hP : va_P D gC (hpW cI cP cL a ho (u, vp_updL f 0 r.toInt64)) H := hP
    have hD : va_D A (hpW cI cP cL a ho (u, vp_updL f 0 r.toInt64)) := hD
    refine lv_goto (tgt := 15) hx hb dLw_next_9 (by decide) ?_
    refine lv_iconst (v := 0) hx hb dLw_next_15 (by decide) ?_
    exact gx_iret (u := (u, vp_updL f 0 r.toInt64)) E hK hP hD hS (Or.inl ⟨rfl, r, hq, (show vp_updL f 0 r.toInt64 0 = r.toInt64 from pk_uLs)⟩) dLw_next_16
set_option maxHeartbeats 4000000 in
set_option maxRecDepth 100000 in
theorem hp_count (l : Launch) (hfl : l.stackTraces = false) (D : va_G) (cI cP cL : ClassId) (a : Nat → Nat) (ho : Nat) (σ : nSt) (f : Nat → Int64) (p0 : Int32) (post : Int32 → nSt → Prop) (thr : String → Prop) (hM : gv_M l yNr_count (Cond.code yNr_count cNr_count 2 (some .int) :: gW) (gRc 8 1 6) D gC (nrT cI cP) (nrW cI cP a) σ (.ref (a 0) :: [.int p0]) post thr) (hthr : ∀ E, thr E → ∃ c, (E, c) ∈ ([(xIA, 1)] : List (String × Int32))) :
    gz_M l yLw_count (Cond.codeWith yLw_count cLw_count 4 (some .int) [(0, 9, 12, 13)] :: gW) (gRc 9 1 6) D gC (hpT cI cP cL) (hpW cI cP cL a ho) (σ, f) [.ref (a 0), .int p0, .ref ho] (hpP σ f post thr [(xIA, 1)]) := by
  refine gz_M.of (cc := cLw_count) (maxL := 4) (ret := some .int) (hh := [(0, 9, 12, 13)]) (by decide) rfl (Nat.le_of_ble_eq_true rfl) ?_
  intro p e s m args below meth c ls A E htb hZ hT hA hK hP hD hS hl
  obtain ⟨hx, hb, hr, hml, hts, hown, hlocks, hnm⟩ := id E
  have hg : ∀ w ∈ gW, w.before args s = true := fun w h => hts w (List.mem_cons_of_mem _ h)
  have hown : s.vm.findClass "NurseryRowLaw" = some m.cls := hown
  have hl : lv_has ls 4 [(0, .ref (a 0)), (1, .int p0), (2, .ref ho)] := hl
  refine lv_aload_n hx hb dLw_count_0 rfl (lv_at hl 2 rfl) ?_
  refine lv_iconst (v := 0) hx hb dLw_count_1 (by decide) ?_
  refine lv_aload_n hx hb dLw_count_2 rfl (lv_at hl 0 rfl) ?_
  refine lv_iload_n hx hb dLw_count_3 rfl (lv_at hl 1 rfl) ?_
  have hKc : va_K D gC (nrT cI cP) s := hK.sub [0, 1] rfl
  refine gv_callS (C := "NurseryRow") (wr := [(ho, .inl (cL, 1, .inr (.inl f)))]) (As := [.int p0]) (rest := [.int 0, .ref ho]) E hM (gx_cwV hts l_Lw_55 k_Nr_count ki_Nr_count ke_Nr_count z_Nr n_Nr_count ⟨by decide, by decide⟩) [0, 1, 2, 3, 4, 5, 6, 7, 8] [9] rfl rfl rfl rfl (by decide) hKc hZ hT hP hD hS hA (va_recv hK hP (ci := 1) (q0 := 0) rfl rfl) hl.1 rfl rfl (Nat.le_of_ble_eq_true rfl) ⟨by decide, by decide⟩ dLw_count_4 (fun X ce q9 H locs hX hP hD hS h1 h2 h3 => ?_) (fun r u H locs hq hP hD hS => ?_)
  · obtain ⟨k0, hk0⟩ := hthr X hX
    have hkm := hk0
    obtain ⟨eX, ek⟩ := Prod.mk.inj (List.mem_singleton.mp hk0)
    subst eX; subst ek
    have hP2 : va_P D gC (hpW cI cP cL a ho (σ, f)) H := hP.sub [1, 2, 3, 4, 5, 6, 7, 8, 9, 0] rfl
    have hD2 : va_D A (hpW cI cP cL a ho (σ, f)) := hD.sub [1, 2, 3, 4, 5, 6, 7, 8, 9, 0] rfl rfl
    refine gz_catch1 hown htb (by decide) (by decide) (hg _ kl_Lw_13) (gv_cast hT (by decide +kernel)) h1 h2 h3 ?_
    refine lv_astore_n (lv' := [(3, .ref q9), (0, .ref (a 0)), (1, .int p0), (2, .ref ho)]) hx hb dLw_count_12 rfl hl (by decide) rfl (fun ls hl => ?_)
    refine lv_iconst (v := 1) hx hb dLw_count_13 (by decide) ?_
    exact gx_iret (u := (σ, f)) E hK hP2 hD2 hS (Or.inr ⟨_, hX, hkm, rfl⟩) dLw_count_14
  · have hP : va_P D gC (hpW cI cP cL a ho (u, f)) H := hP.sub [1, 2, 3, 4, 5, 6, 7, 8, 9, 0] rfl
    have hD : va_D A (hpW cI cP cL a ho (u, f)) := hD.sub [1, 2, 3, 4, 5, 6, 7, 8, 9, 0] rfl rfl
    refine lv_i2l hx hb dLw_count_7 rfl ?_
    refine va_last hx hb hK hP hD hS 9 2 rfl rfl (by unfold vp_in; decide) dLw_count_8 (fun H locs hP hD hS => ?_)
    have hP : va_P D gC (hpW cI cP cL a ho (u, vp_updL f 0 r.toInt64)) H := hP
    have hD : va_D A (hpW cI cP cL a ho (u, vp_updL f 0 r.toInt64)) := hD
    refine lv_goto (tgt := 15) hx hb dLw_count_9 (by decide) ?_
    refine lv_iconst (v := 0) hx hb dLw_count_15 (by decide) ?_
    exact gx_iret (u := (u, vp_updL f 0 r.toInt64)) E hK hP hD hS (Or.inl ⟨rfl, r, hq, (show vp_updL f 0 r.toInt64 0 = r.toInt64 from pk_uLs)⟩) dLw_count_16
