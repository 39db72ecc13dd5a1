/-! THE LAW, CASE BY CASE -/
def lwW (cI cP cL cJ cZ : ClassId) (a : Nat → Nat) (ho : Nat) (b : Nat → Nat) (u : nSt × (Nat → Int64) × mSt) : va_W := (nrW cI cP a u.1 ++ [(ho, .inl (cL, 1, .inr (.inl u.2.1)))]) ++ mdW cJ cZ b u.2.2
def lwT (cI cP cL cJ cZ : ClassId) : List (ClassId × FieldType) := [(cI, .int), (cP, .object "NurseryRow$Part"), (cL, .long), (cJ, .int), (cZ, .boolean)]
abbrev lwA (s : State) : Nat → Prop := fun q => s.heap.size ≤ q
abbrev lwv (bb : Nat) (a b : Nat → Nat) (ho t : Nat) : List (Nat × Value) := [(0, .ref bb), (1, .ref (a 0)), (2, .ref (b 0)), (3, .ref ho), (4, .int (nI (4 * t)))]
/-- what stays, all the law long -/
def lwC (p : Program) (s : State) (m : MethodId) (meth : Method) (c : Code) (bb L : Nat) (xs : Nat → Int32) (D : va_G) (cI cP cL cJ cZ : ClassId) : Prop :=
  gx_E p s m #[Value.ref bb] meth c code ret 7 (Cond.initialized "NurseryRow" :: gW) ⟨"NurseryRowLaw", meth.name, ""⟩ ∧ va_X bb L xs s s.heap ∧ bb < s.heap.size ∧ gv_Z (lwA s) s s.heap ∧ gv_T s ∧ va_K D gC (lwT cI cP cL cJ cZ) s
theorem hp_key {σ σ' : nSt} {f f' : Nat → Int64} {post : Int32 → nSt → Prop} {thr : String → Prop} {cds : List (String × Int32)} {k rM : Int32} {νM : mSt} (hq : hpP σ f post thr cds k (σ', f')) (h1 : ∀ r u, post r u → νM.M 0 = 0 ∧ r = rM ∧ Sim u νM) (h2 : ∀ E, thr E → ∃ c, (E, c) ∈ cds ∧ νM.M 0 = c ∧ Sim σ νM)
    (hu : ∀ E c c', (E, c) ∈ cds → (E, c') ∈ cds → c = c') (hz : ∀ E c, (E, c) ∈ cds → c ≠ 0) : νM.M 0 = k ∧ (k = 0 → f' 0 = rM.toInt64) ∧ Sim σ' νM := by
  rcases hq with ⟨hk, r, hp, hf⟩ | ⟨E, hE, hc, hs⟩
  · obtain ⟨a1, a2, a3⟩ := h1 r _ hp
    exact ⟨a1.trans hk.symm, fun _ => by rw [← a2]; exact hf, a3⟩
  · obtain ⟨c, b1, b2, b3⟩ := h2 E hE
    have hs : σ' = σ := hs
    exact ⟨b2.trans (hu E c k b1 hc), fun z => absurd z (hz E k hc), by rw [hs]; exact b3⟩
theorem cds1u {X : String} {n : Int32} (E : String) (c c' : Int32) (h : (E, c) ∈ [(X, n)]) (h' : (E, c') ∈ [(X, n)]) : c = c' := ((Prod.mk.inj (List.mem_singleton.mp h)).2).trans ((Prod.mk.inj (List.mem_singleton.mp h')).2).symm
theorem cds1z {X : String} (E : String) (c : Int32) (h : (E, c) ∈ [(X, (1 : Int32))]) : c ≠ 0 := by rw [(Prod.mk.inj (List.mem_singleton.mp h)).2]; decide
theorem cds2u (E : String) (c c' : Int32) (h : (E, c) ∈ [(xNS, (1 : Int32)), (xIA, 2)]) (h' : (E, c') ∈ [(xNS, (1 : Int32)), (xIA, 2)]) : c = c' := by
  have nn : ¬ xNS = xIA := by decide
  rcases List.mem_cons.mp h with h | h <;> rcases List.mem_cons.mp h' with h' | h'
  · exact (Prod.mk.inj h).2.trans (Prod.mk.inj h').2.symm
  · exact absurd ((Prod.mk.inj h).1.symm.trans (Prod.mk.inj (List.mem_singleton.mp h')).1) nn
  · exact absurd ((Prod.mk.inj h').1.symm.trans (Prod.mk.inj (List.mem_singleton.mp h)).1) nn
  · exact (Prod.mk.inj (List.mem_singleton.mp h)).2.trans (Prod.mk.inj (List.mem_singleton.mp h')).2.symm
theorem cds2z (E : String) (c : Int32) (h : (E, c) ∈ [(xNS, (1 : Int32)), (xIA, 2)]) : c ≠ 0 := by
  rcases List.mem_cons.mp h with h | h
  · rw [(Prod.mk.inj h).2]; decide
  · rw [(Prod.mk.inj (List.mem_singleton.mp h)).2]; decide
section CASES
variable {p : Program} {l : Launch} {e : Env} {s : State} {m : MethodId} {below : List Frame} {meth : Method} {c : Code} {bb L : Nat} {xs : Nat → Int32} {D : va_G} {cI cP cL cJ cZ : ClassId} {a b : Nat → Nat} {ho t : Nat} {σ : nSt} {f : Nat → Int64} {μ : mSt} {H : Heap} {locs : List Loc} {ls : Array Slot}
set_option maxHeartbeats 4000000 in
set_option maxRecDepth 100000 in
theorem lc_space (hC : lwC p s m meth c bb L xs D cI cP cL cJ cZ) (hfl : l.stackTraces = false) (ht : 4 * t + 4 ≤ L) (hL : L ≤ 2048) (hsim : Sim σ μ) (hP : va_P D gC (lwW cI cP cL cJ cZ a ho b (σ, f, μ)) H) (hD : va_D (lwA s) (lwW cI cP cL cJ cZ a ho b (σ, f, μ))) (hS : va_S (lwA s) s.heap H locs) (hl : lv_has ls 7 (lwv bb a b ho t))
    (kk : ∀ (σ : nSt) (f : Nat → Int64) (μ : mSt) (H : Heap) (locs : List Loc) (ls : Array Slot), Sim σ μ → va_P D gC (lwW cI cP cL cJ cZ a ho b (σ, f, μ)) H → va_D (lwA s) (lwW cI cP cL cJ cZ a ho b (σ, f, μ)) → va_S (lwA s) s.heap H locs → lv_has ls 7 (lwv bb a b ho t) → W p l e room_1 s m #[Value.ref bb] below meth c H locs (28 + t) (97286 + 10241 * t) (lw_Z below #[Value.ref bb] s) (F0 m 952 ls [])) :
    W p l e room_1 s m #[Value.ref bb] below meth c H locs (27 + t) (87045 + 10241 * t) (lw_Z below #[Value.ref bb] s) (F0 m 104 ls []) := by
  obtain ⟨E, hX, hbl, hZ, hT, hK⟩ := hC
  obtain ⟨hx, hb, hr, hml, hts, hown, hlocks, hnm⟩ := id E
  have hA : ∀ q : Nat, s.heap.size ≤ q → lwA s q := fun _ h => h
  have hbA : ¬ lwA s bb := Nat.not_le.mpr hbl
  have hKn : va_K D gC (hpT cI cP cL) s := hK.sub [0, 1, 2] rfl
  have hKm : va_K D gC (mdT cJ cZ) s := hK.sub [3, 4] rfl
  obtain ⟨post, thr, rM, νM, hcl, hmd, h1, h2⟩ := st_space hsim (xs (4 * t + 1)) (xs (4 * t + 2)) (xs (4 * t + 3))
  have hl : lv_has ls 7 [(0, .ref bb), (1, .ref (a 0)), (2, .ref (b 0)), (3, .ref ho), (4, .int (nI (4 * t)))] := hl
  refine lv_aload_n hx hb dlaw_104 rfl (lv_at hl 1 rfl) ?_
  refine lv_aload_n hx hb dlaw_105 rfl (lv_at hl 0 rfl) ?_
  refine lv_iload hx hb dlaw_106 (lv_at hl 4 rfl) ?_
  refine lv_iconst (v := 1) hx hb dlaw_108 (by decide) ?_
  refine lv_iadd hx hb dlaw_109 ?_
  refine gx_top (z := nI (4 * t + 1)) (by rw [show (1 : Int32) = nI 1 from rfl, nI_add]) ?_
  refine va_sld hx hb hX hbl hbA hS (vp_in_nI (show 4 * t + 1 < L by omega) (by omega)) dlaw_110 ?_
  refine gx_top (z := xs (4 * t + 1)) (congrArg xs (nI_clamp (by omega))) ?_
  refine lv_aload_n hx hb dlaw_111 rfl (lv_at hl 0 rfl) ?_
  refine lv_iload hx hb dlaw_112 (lv_at hl 4 rfl) ?_
  refine lv_iconst (v := 2) hx hb dlaw_114 (by decide) ?_
  refine lv_iadd hx hb dlaw_115 ?_
  refine gx_top (z := nI (4 * t + 2)) (by rw [show (2 : Int32) = nI 2 from rfl, nI_add]) ?_
  refine va_sld hx hb hX hbl hbA hS (vp_in_nI (show 4 * t + 2 < L by omega) (by omega)) dlaw_116 ?_
  refine gx_top (z := xs (4 * t + 2)) (congrArg xs (nI_clamp (by omega))) ?_
  refine lv_aload_n hx hb dlaw_117 rfl (lv_at hl 0 rfl) ?_
  refine lv_iload hx hb dlaw_118 (lv_at hl 4 rfl) ?_
  refine lv_iconst (v := 3) hx hb dlaw_120 (by decide) ?_
  refine lv_iadd hx hb dlaw_121 ?_
  refine gx_top (z := nI (4 * t + 3)) (by rw [show (3 : Int32) = nI 3 from rfl, nI_add]) ?_
  refine va_sld hx hb hX hbl hbA hS (vp_in_nI (show 4 * t + 3 < L by omega) (by omega)) dlaw_122 ?_
  refine gx_top (z := xs (4 * t + 3)) (congrArg xs (nI_clamp (by omega))) ?_
  refine lv_aload_n hx hb dlaw_123 rfl (lv_at hl 3 rfl) ?_
  refine gz_calls (wr := mdW cJ cZ b μ) (As := [.ref (a 0), .int (xs (4 * t + 1)), .int (xs (4 * t + 2)), .int (xs (4 * t + 3)), .ref ho]) (rest := []) E (hp_space l hfl D cI cP cL a ho σ f (xs (4 * t + 1)) (xs (4 * t + 2)) (xs (4 * t + 3)) post thr (hcl l hfl D cI cP a) (fun X hX => ⟨_, (h2 X hX).choose_spec.1⟩)) (gx_cwSW hts l_Lw_62 k_Lw_space kt_Lw_space z_Lw n_Lw_space ⟨by decide, by decide⟩) [0, 1, 2, 3, 4, 5, 6, 7, 8, 9] [10, 11, 12, 13, 14, 15, 16, 17, 18, 19, 20, 21, 22, 23, 24, 25, 26] rfl rfl rfl rfl (by decide) hKn hZ hT hP hD hS hA hl.1 rfl rfl (Nat.le_of_ble_eq_true rfl) ⟨by show 27 + t + 1 ≤ 601024; omega, by show 87045 + 10241 * t + 10241 ≤ 7293034; omega⟩ dlaw_124 (fun k u H locs hq hP hD hS => ?_)
  obtain ⟨σ', f'⟩ := u
  have hkey := hp_key hq h1 h2 cds1u cds1z
  have hP : va_P D gC (lwW cI cP cL cJ cZ a ho b (σ', f', μ)) H := hP.sub [17, 18, 19, 20, 21, 22, 23, 24, 25, 26, 0, 1, 2, 3, 4, 5, 6, 7, 8, 9, 10, 11, 12, 13, 14, 15, 16] rfl
  have hD : va_D (lwA s) (lwW cI cP cL cJ cZ a ho b (σ', f', μ)) := hD.sub [17, 18, 19, 20, 21, 22, 23, 24, 25, 26, 0, 1, 2, 3, 4, 5, 6, 7, 8, 9, 10, 11, 12, 13, 14, 15, 16] rfl rfl
  refine W.widen (k := 28 + t) (n := 97286 + 10241 * t) (by show 27 + t + 1 ≤ 28 + t; omega) (by show 87045 + 10241 * t + 10241 ≤ 97286 + 10241 * t; omega) ?_
  refine lv_istore (lv' := [(5, .int k), (0, .ref bb), (1, .ref (a 0)), (2, .ref (b 0)), (3, .ref ho), (4, .int (nI (4 * t)))]) hx hb dlaw_127 hl (by decide) rfl (fun ls hl => ?_)
  refine lv_aload_n hx hb dlaw_129 rfl (lv_at hl 3 rfl) ?_
  refine lv_aload_n hx hb dlaw_130 rfl (lv_at hl 1 rfl) ?_
  refine lv_iload hx hb dlaw_131 (lv_at hl 5 rfl) ?_
  refine lv_iconst (v := 1) hx hb dlaw_133 (by decide) ?_
  refine lv_iadd hx hb dlaw_134 ?_
  refine gx_top (z := nI (4 * t + 1)) (by rw [show (1 : Int32) = nI 1 from rfl, nI_add]) ?_
  refine va_sld hx hb hX hbl hbA hS (vp_in_nI (show 4 * t + 1 < L by omega) (by omega)) dlaw_135 ?_
  refine gx_top (z := xs (4 * t + 1)) (congrArg xs (nI_clamp (by omega))) ?_
  refine lv_aload_n hx hb dlaw_136 rfl (lv_at hl 1 rfl) ?_
  refine lv_iload hx hb dlaw_137 (lv_at hl 5 rfl) ?_
  refine lv_iconst (v := 2) hx hb dlaw_139 (by decide) ?_
  refine lv_iadd hx hb dlaw_140 ?_
  refine gx_top (z := nI (4 * t + 2)) (by rw [show (2 : Int32) = nI 2 from rfl, nI_add]) ?_
  refine va_sld hx hb hX hbl hbA hS (vp_in_nI (show 4 * t + 2 < L by omega) (by omega)) dlaw_141 ?_
  refine gx_top (z := xs (4 * t + 2)) (congrArg xs (nI_clamp (by omega))) ?_
  refine lv_aload_n hx hb dlaw_142 rfl (lv_at hl 1 rfl) ?_
  refine lv_iload hx hb dlaw_143 (lv_at hl 5 rfl) ?_
  refine lv_iconst (v := 3) hx hb dlaw_145 (by decide) ?_
  refine lv_iadd hx hb dlaw_146 ?_
  refine gx_top (z := nI (4 * t + 3)) (by rw [show (3 : Int32) = nI 3 from rfl, nI_add]) ?_
  refine va_sld hx hb hX hbl hbA hS (vp_in_nI (show 4 * t + 3 < L by omega) (by omega)) dlaw_147 ?_
  refine gx_top (z := xs (4 * t + 3)) (congrArg xs (nI_clamp (by omega))) ?_
  refine gx_calliS (C := "NurseryRowModel") (wr := nrW cI cP a σ' ++ [(ho, .inl (cL, 1, .inr (.inl f')))]) (As := [.int (xs (4 * t + 1)), .int (xs (4 * t + 2)), .int (xs (4 * t + 3))]) (rest := []) E (hmd l D cJ cZ b) (gx_cwV hts l_Lw_67 k_Md_space ki_Md_space ke_Md_space z_Md n_Md_space ⟨by decide, by decide⟩) [10, 11, 12, 13, 14, 15, 16, 17, 18, 19, 20, 21, 22, 23, 24, 25, 26] [0, 1, 2, 3, 4, 5, 6, 7, 8, 9] rfl rfl rfl rfl (by decide) hKm hP hD hS hA (va_recv hK hP (ci := 2) (q0 := 10) rfl rfl) hl.1 rfl rfl (Nat.le_of_ble_eq_true rfl) ⟨by show 28 + t + 0 ≤ 601024; omega, by show 97286 + 10241 * t + 0 ≤ 7293034; omega⟩ dlaw_148 (fun r u H locs hq hP hD hS => ?_)
  rw [hq.2] at hP hD
  refine gx_top (z := rM) hq.1 ?_
  have hP : va_P D gC (lwW cI cP cL cJ cZ a ho b (σ', f', νM)) H := hP
  have hD : va_D (lwA s) (lwW cI cP cL cJ cZ a ho b (σ', f', νM)) := hD
  refine W.widen (k := 28 + t) (n := 97286 + 10241 * t) (by show 28 + t + 0 ≤ 28 + t; omega) (by show 97286 + 10241 * t + 0 ≤ 97286 + 10241 * t; omega) ?_
  refine lv_istore (lv' := [(6, .int rM), (5, .int k), (0, .ref bb), (1, .ref (a 0)), (2, .ref (b 0)), (3, .ref ho), (4, .int (nI (4 * t)))]) hx hb dlaw_151 hl (by decide) rfl (fun ls hl => ?_)
  refine lv_aload_n hx hb dlaw_153 rfl (lv_at hl 4 rfl) ?_
  refine gx_callpS (C := "NurseryRowModel") (As := []) (rest := []) E (qMd_thrown l D cJ cZ b νM) (gx_cwV hts l_Lw_68 k_Md_thrown ki_Md_thrown ke_Md_thrown z_Md n_Md_thrown ⟨by decide, by decide⟩) [10, 11, 12, 13, 14, 15, 16, 17, 18, 19, 20, 21, 22, 23, 24, 25, 26] rfl rfl hKm hP hD (va_recv hK hP (ci := 2) (q0 := 10) rfl rfl) hl.1 rfl rfl (Nat.le_of_ble_eq_true rfl) ⟨by show 28 + t ≤ 601024; omega, by show 97286 + 10241 * t ≤ 7293034; omega⟩ dlaw_154 ?_
  refine lv_iload hx hb dlaw_157 (lv_at hl 1 rfl) ?_
  refine lv_icmp_eq (tgt := 164) hx hb dlaw_159 (by decide) (fun c1 => ?_) (fun c1 => ?_)
  · skip
    refine lv_iload hx hb dlaw_164 (lv_at hl 1 rfl) ?_
    refine lv_if_ne (tgt := 181) hx hb dlaw_166 (by decide) (fun c2 => ?_) (fun c2 => ?_)
    · refine lv_goto (tgt := 952) hx hb dlaw_181 (by decide) ?_
      exact kk σ' f' νM H locs ls hkey.2.2 hP hD hS (lv_sub hl [2, 3, 4, 5, 6] rfl)
    · skip
      refine lv_aload_n hx hb dlaw_169 rfl (lv_at hl 5 rfl) ?_
      refine lv_iconst (v := 0) hx hb dlaw_170 (by decide) ?_
      refine va_lald hx hb hK hP 9 2 rfl rfl (by unfold vp_in; decide) dlaw_171 ?_
      refine lv_iload hx hb dlaw_172 (lv_at hl 0 rfl) ?_
      refine lv_i2l hx hb dlaw_174 rfl ?_
      refine W.lcmp hx hb dlaw_175 ?_
      have hcm : lg_cmp (f' (0 : Int32).toNatClampNeg) rM.toInt64 = 0 := by rw [show (0 : Int32).toNatClampNeg = 0 from by decide, hkey.2.1 c2]; simp [lg_cmp]
      refine lv_if_eq (tgt := 181) hx hb dlaw_176 (by decide) (fun c3 => ?_) (fun c3 => ?_)
      · refine lv_goto (tgt := 952) hx hb dlaw_181 (by decide) ?_
        exact kk σ' f' νM H locs ls hkey.2.2 hP hD hS (lv_sub hl [2, 3, 4, 5, 6] rfl)
      · exact absurd hcm c3
  · exact absurd hkey.1 c1
set_option maxHeartbeats 4000000 in
set_option maxRecDepth 100000 in
theorem lc_limit (hC : lwC p s m meth c bb L xs D cI cP cL cJ cZ) (hfl : l.stackTraces = false) (ht : 4 * t + 4 ≤ L) (hL : L ≤ 2048) (hsim : Sim σ μ) (hP : va_P D gC (lwW cI cP cL cJ cZ a ho b (σ, f, μ)) H) (hD : va_D (lwA s) (lwW cI cP cL cJ cZ a ho b (σ, f, μ))) (hS : va_S (lwA s) s.heap H locs) (hl : lv_has ls 7 (lwv bb a b ho t))
    (kk : ∀ (σ : nSt) (f : Nat → Int64) (μ : mSt) (H : Heap) (locs : List Loc) (ls : Array Slot), Sim σ μ → va_P D gC (lwW cI cP cL cJ cZ a ho b (σ, f, μ)) H → va_D (lwA s) (lwW cI cP cL cJ cZ a ho b (σ, f, μ)) → va_S (lwA s) s.heap H locs → lv_has ls 7 (lwv bb a b ho t) → W p l e room_1 s m #[Value.ref bb] below meth c H locs (28 + t) (97286 + 10241 * t) (lw_Z below #[Value.ref bb] s) (F0 m 952 ls [])) :
    W p l e room_1 s m #[Value.ref bb] below meth c H locs (27 + t) (87045 + 10241 * t) (lw_Z below #[Value.ref bb] s) (F0 m 184 ls []) := by
  obtain ⟨E, hX, hbl, hZ, hT, hK⟩ := hC
  obtain ⟨hx, hb, hr, hml, hts, hown, hlocks, hnm⟩ := id E
  have hA : ∀ q : Nat, s.heap.size ≤ q → lwA s q := fun _ h => h
  have hbA : ¬ lwA s bb := Nat.not_le.mpr hbl
  have hKn : va_K D gC (hpT cI cP cL) s := hK.sub [0, 1, 2] rfl
  have hKm : va_K D gC (mdT cJ cZ) s := hK.sub [3, 4] rfl
  obtain ⟨post, thr, rM, νM, hcl, hmd, h1, h2⟩ := st_limit hsim (xs (4 * t + 1))
  have hl : lv_has ls 7 [(0, .ref bb), (1, .ref (a 0)), (2, .ref (b 0)), (3, .ref ho), (4, .int (nI (4 * t)))] := hl
  refine lv_aload_n hx hb dlaw_184 rfl (lv_at hl 1 rfl) ?_
  refine lv_aload_n hx hb dlaw_185 rfl (lv_at hl 0 rfl) ?_
  refine lv_iload hx hb dlaw_186 (lv_at hl 4 rfl) ?_
  refine lv_iconst (v := 1) hx hb dlaw_188 (by decide) ?_
  refine lv_iadd hx hb dlaw_189 ?_
  refine gx_top (z := nI (4 * t + 1)) (by rw [show (1 : Int32) = nI 1 from rfl, nI_add]) ?_
  refine va_sld hx hb hX hbl hbA hS (vp_in_nI (show 4 * t + 1 < L by omega) (by omega)) dlaw_190 ?_
  refine gx_top (z := xs (4 * t + 1)) (congrArg xs (nI_clamp (by omega))) ?_
  refine lv_aload_n hx hb dlaw_191 rfl (lv_at hl 3 rfl) ?_
  refine gz_calls (wr := mdW cJ cZ b μ) (As := [.ref (a 0), .int (xs (4 * t + 1)), .ref ho]) (rest := []) E (hp_limit l hfl D cI cP cL a ho σ f (xs (4 * t + 1)) post thr (hcl l hfl D cI cP a) (fun X hX => ⟨_, (h2 X hX).choose_spec.1⟩)) (gx_cwSW hts l_Lw_71 k_Lw_limit kt_Lw_limit z_Lw n_Lw_limit ⟨by decide, by decide⟩) [0, 1, 2, 3, 4, 5, 6, 7, 8, 9] [10, 11, 12, 13, 14, 15, 16, 17, 18, 19, 20, 21, 22, 23, 24, 25, 26] rfl rfl rfl rfl (by decide) hKn hZ hT hP hD hS hA hl.1 rfl rfl (Nat.le_of_ble_eq_true rfl) ⟨by show 27 + t + 1 ≤ 601024; omega, by show 87045 + 10241 * t + 6 ≤ 7293034; omega⟩ dlaw_192 (fun k u H locs hq hP hD hS => ?_)
  obtain ⟨σ', f'⟩ := u
  have hkey := hp_key hq h1 h2 cds1u cds1z
  have hP : va_P D gC (lwW cI cP cL cJ cZ a ho b (σ', f', μ)) H := hP.sub [17, 18, 19, 20, 21, 22, 23, 24, 25, 26, 0, 1, 2, 3, 4, 5, 6, 7, 8, 9, 10, 11, 12, 13, 14, 15, 16] rfl
  have hD : va_D (lwA s) (lwW cI cP cL cJ cZ a ho b (σ', f', μ)) := hD.sub [17, 18, 19, 20, 21, 22, 23, 24, 25, 26, 0, 1, 2, 3, 4, 5, 6, 7, 8, 9, 10, 11, 12, 13, 14, 15, 16] rfl rfl
  refine W.widen (k := 28 + t) (n := 97286 + 10241 * t) (by show 27 + t + 1 ≤ 28 + t; omega) (by show 87045 + 10241 * t + 6 ≤ 97286 + 10241 * t; omega) ?_
  refine lv_istore (lv' := [(5, .int k), (0, .ref bb), (1, .ref (a 0)), (2, .ref (b 0)), (3, .ref ho), (4, .int (nI (4 * t)))]) hx hb dlaw_195 hl (by decide) rfl (fun ls hl => ?_)
  refine lv_aload_n hx hb dlaw_197 rfl (lv_at hl 3 rfl) ?_
  refine lv_aload_n hx hb dlaw_198 rfl (lv_at hl 1 rfl) ?_
  refine lv_iload hx hb dlaw_199 (lv_at hl 5 rfl) ?_
  refine lv_iconst (v := 1) hx hb dlaw_201 (by decide) ?_
  refine lv_iadd hx hb dlaw_202 ?_
  refine gx_top (z := nI (4 * t + 1)) (by rw [show (1 : Int32) = nI 1 from rfl, nI_add]) ?_
  refine va_sld hx hb hX hbl hbA hS (vp_in_nI (show 4 * t + 1 < L by omega) (by omega)) dlaw_203 ?_
  refine gx_top (z := xs (4 * t + 1)) (congrArg xs (nI_clamp (by omega))) ?_
  refine gx_calliS (C := "NurseryRowModel") (wr := nrW cI cP a σ' ++ [(ho, .inl (cL, 1, .inr (.inl f')))]) (As := [.int (xs (4 * t + 1))]) (rest := []) E (hmd l D cJ cZ b) (gx_cwV hts l_Lw_74 k_Md_limit ki_Md_limit ke_Md_limit z_Md n_Md_limit ⟨by decide, by decide⟩) [10, 11, 12, 13, 14, 15, 16, 17, 18, 19, 20, 21, 22, 23, 24, 25, 26] [0, 1, 2, 3, 4, 5, 6, 7, 8, 9] rfl rfl rfl rfl (by decide) hKm hP hD hS hA (va_recv hK hP (ci := 2) (q0 := 10) rfl rfl) hl.1 rfl rfl (Nat.le_of_ble_eq_true rfl) ⟨by show 28 + t + 0 ≤ 601024; omega, by show 97286 + 10241 * t + 0 ≤ 7293034; omega⟩ dlaw_204 (fun r u H locs hq hP hD hS => ?_)
  rw [hq.2] at hP hD
  refine gx_top (z := rM) hq.1 ?_
  have hP : va_P D gC (lwW cI cP cL cJ cZ a ho b (σ', f', νM)) H := hP
  have hD : va_D (lwA s) (lwW cI cP cL cJ cZ a ho b (σ', f', νM)) := hD
  refine W.widen (k := 28 + t) (n := 97286 + 10241 * t) (by show 28 + t + 0 ≤ 28 + t; omega) (by show 97286 + 10241 * t + 0 ≤ 97286 + 10241 * t; omega) ?_
  refine lv_istore (lv' := [(6, .int rM), (5, .int k), (0, .ref bb), (1, .ref (a 0)), (2, .ref (b 0)), (3, .ref ho), (4, .int (nI (4 * t)))]) hx hb dlaw_207 hl (by decide) rfl (fun ls hl => ?_)
  refine lv_aload_n hx hb dlaw_209 rfl (lv_at hl 4 rfl) ?_
  refine gx_callpS (C := "NurseryRowModel") (As := []) (rest := []) E (qMd_thrown l D cJ cZ b νM) (gx_cwV hts l_Lw_68 k_Md_thrown ki_Md_thrown ke_Md_thrown z_Md n_Md_thrown ⟨by decide, by decide⟩) [10, 11, 12, 13, 14, 15, 16, 17, 18, 19, 20, 21, 22, 23, 24, 25, 26] rfl rfl hKm hP hD (va_recv hK hP (ci := 2) (q0 := 10) rfl rfl) hl.1 rfl rfl (Nat.le_of_ble_eq_true rfl) ⟨by show 28 + t ≤ 601024; omega, by show 97286 + 10241 * t ≤ 7293034; omega⟩ dlaw_210 ?_
  refine lv_iload hx hb dlaw_213 (lv_at hl 1 rfl) ?_
  refine lv_icmp_eq (tgt := 220) hx hb dlaw_215 (by decide) (fun c1 => ?_) (fun c1 => ?_)
  · skip
    refine lv_iload hx hb dlaw_220 (lv_at hl 1 rfl) ?_
    refine lv_if_ne (tgt := 237) hx hb dlaw_222 (by decide) (fun c2 => ?_) (fun c2 => ?_)
    · refine lv_goto (tgt := 952) hx hb dlaw_237 (by decide) ?_
      exact kk σ' f' νM H locs ls hkey.2.2 hP hD hS (lv_sub hl [2, 3, 4, 5, 6] rfl)
    · skip
      refine lv_aload_n hx hb dlaw_225 rfl (lv_at hl 5 rfl) ?_
      refine lv_iconst (v := 0) hx hb dlaw_226 (by decide) ?_
      refine va_lald hx hb hK hP 9 2 rfl rfl (by unfold vp_in; decide) dlaw_227 ?_
      refine lv_iload hx hb dlaw_228 (lv_at hl 0 rfl) ?_
      refine lv_i2l hx hb dlaw_230 rfl ?_
      refine W.lcmp hx hb dlaw_231 ?_
      have hcm : lg_cmp (f' (0 : Int32).toNatClampNeg) rM.toInt64 = 0 := by rw [show (0 : Int32).toNatClampNeg = 0 from by decide, hkey.2.1 c2]; simp [lg_cmp]
      refine lv_if_eq (tgt := 237) hx hb dlaw_232 (by decide) (fun c3 => ?_) (fun c3 => ?_)
      · refine lv_goto (tgt := 952) hx hb dlaw_237 (by decide) ?_
        exact kk σ' f' νM H locs ls hkey.2.2 hP hD hS (lv_sub hl [2, 3, 4, 5, 6] rfl)
      · exact absurd hcm c3
  · exact absurd hkey.1 c1
set_option maxHeartbeats 4000000 in
set_option maxRecDepth 100000 in
theorem lc_make (hC : lwC p s m meth c bb L xs D cI cP cL cJ cZ) (hfl : l.stackTraces = false) (ht : 4 * t + 4 ≤ L) (hL : L ≤ 2048) (hsim : Sim σ μ) (hP : va_P D gC (lwW cI cP cL cJ cZ a ho b (σ, f, μ)) H) (hD : va_D (lwA s) (lwW cI cP cL cJ cZ a ho b (σ, f, μ))) (hS : va_S (lwA s) s.heap H locs) (hl : lv_has ls 7 (lwv bb a b ho t))
    (kk : ∀ (σ : nSt) (f : Nat → Int64) (μ : mSt) (H : Heap) (locs : List Loc) (ls : Array Slot), Sim σ μ → va_P D gC (lwW cI cP cL cJ cZ a ho b (σ, f, μ)) H → va_D (lwA s) (lwW cI cP cL cJ cZ a ho b (σ, f, μ)) → va_S (lwA s) s.heap H locs → lv_has ls 7 (lwv bb a b ho t) → W p l e room_1 s m #[Value.ref bb] below meth c H locs (28 + t) (97286 + 10241 * t) (lw_Z below #[Value.ref bb] s) (F0 m 952 ls [])) :
    W p l e room_1 s m #[Value.ref bb] below meth c H locs (27 + t) (87045 + 10241 * t) (lw_Z below #[Value.ref bb] s) (F0 m 240 ls []) := by
  obtain ⟨E, hX, hbl, hZ, hT, hK⟩ := hC
  obtain ⟨hx, hb, hr, hml, hts, hown, hlocks, hnm⟩ := id E
  have hA : ∀ q : Nat, s.heap.size ≤ q → lwA s q := fun _ h => h
  have hbA : ¬ lwA s bb := Nat.not_le.mpr hbl
  have hKn : va_K D gC (hpT cI cP cL) s := hK.sub [0, 1, 2] rfl
  have hKm : va_K D gC (mdT cJ cZ) s := hK.sub [3, 4] rfl
  obtain ⟨post, thr, rM, νM, hcl, hmd, h1, h2⟩ := st_make hsim (xs (4 * t + 1)) (xs (4 * t + 2))
  have hl : lv_has ls 7 [(0, .ref bb), (1, .ref (a 0)), (2, .ref (b 0)), (3, .ref ho), (4, .int (nI (4 * t)))] := hl
  refine lv_aload_n hx hb dlaw_240 rfl (lv_at hl 1 rfl) ?_
  refine lv_aload_n hx hb dlaw_241 rfl (lv_at hl 0 rfl) ?_
  refine lv_iload hx hb dlaw_242 (lv_at hl 4 rfl) ?_
  refine lv_iconst (v := 1) hx hb dlaw_244 (by decide) ?_
  refine lv_iadd hx hb dlaw_245 ?_
  refine gx_top (z := nI (4 * t + 1)) (by rw [show (1 : Int32) = nI 1 from rfl, nI_add]) ?_
  refine va_sld hx hb hX hbl hbA hS (vp_in_nI (show 4 * t + 1 < L by omega) (by omega)) dlaw_246 ?_
  refine gx_top (z := xs (4 * t + 1)) (congrArg xs (nI_clamp (by omega))) ?_
  refine lv_aload_n hx hb dlaw_247 rfl (lv_at hl 0 rfl) ?_
  refine lv_iload hx hb dlaw_248 (lv_at hl 4 rfl) ?_
  refine lv_iconst (v := 2) hx hb dlaw_250 (by decide) ?_
  refine lv_iadd hx hb dlaw_251 ?_
  refine gx_top (z := nI (4 * t + 2)) (by rw [show (2 : Int32) = nI 2 from rfl, nI_add]) ?_
  refine va_sld hx hb hX hbl hbA hS (vp_in_nI (show 4 * t + 2 < L by omega) (by omega)) dlaw_252 ?_
  refine gx_top (z := xs (4 * t + 2)) (congrArg xs (nI_clamp (by omega))) ?_
  refine lv_aload_n hx hb dlaw_253 rfl (lv_at hl 3 rfl) ?_
  refine gz_calls (wr := mdW cJ cZ b μ) (As := [.ref (a 0), .int (xs (4 * t + 1)), .int (xs (4 * t + 2)), .ref ho]) (rest := []) E (hp_make l hfl D cI cP cL a ho σ f (xs (4 * t + 1)) (xs (4 * t + 2)) post thr (hcl l hfl D cI cP a) (fun X hX => ⟨_, (h2 X hX).choose_spec.1⟩)) (gx_cwSW hts l_Lw_75 k_Lw_make kt_Lw_make z_Lw n_Lw_make ⟨by decide, by decide⟩) [0, 1, 2, 3, 4, 5, 6, 7, 8, 9] [10, 11, 12, 13, 14, 15, 16, 17, 18, 19, 20, 21, 22, 23, 24, 25, 26] rfl rfl rfl rfl (by decide) hKn hZ hT hP hD hS hA hl.1 rfl rfl (Nat.le_of_ble_eq_true rfl) ⟨by show 27 + t + 1 ≤ 601024; omega, by show 87045 + 10241 * t + 6 ≤ 7293034; omega⟩ dlaw_254 (fun k u H locs hq hP hD hS => ?_)
  obtain ⟨σ', f'⟩ := u
  have hkey := hp_key hq h1 h2 cds1u cds1z
  have hP : va_P D gC (lwW cI cP cL cJ cZ a ho b (σ', f', μ)) H := hP.sub [17, 18, 19, 20, 21, 22, 23, 24, 25, 26, 0, 1, 2, 3, 4, 5, 6, 7, 8, 9, 10, 11, 12, 13, 14, 15, 16] rfl
  have hD : va_D (lwA s) (lwW cI cP cL cJ cZ a ho b (σ', f', μ)) := hD.sub [17, 18, 19, 20, 21, 22, 23, 24, 25, 26, 0, 1, 2, 3, 4, 5, 6, 7, 8, 9, 10, 11, 12, 13, 14, 15, 16] rfl rfl
  refine W.widen (k := 28 + t) (n := 97286 + 10241 * t) (by show 27 + t + 1 ≤ 28 + t; omega) (by show 87045 + 10241 * t + 6 ≤ 97286 + 10241 * t; omega) ?_
  refine lv_istore (lv' := [(5, .int k), (0, .ref bb), (1, .ref (a 0)), (2, .ref (b 0)), (3, .ref ho), (4, .int (nI (4 * t)))]) hx hb dlaw_257 hl (by decide) rfl (fun ls hl => ?_)
  refine lv_aload_n hx hb dlaw_259 rfl (lv_at hl 3 rfl) ?_
  refine lv_aload_n hx hb dlaw_260 rfl (lv_at hl 1 rfl) ?_
  refine lv_iload hx hb dlaw_261 (lv_at hl 5 rfl) ?_
  refine lv_iconst (v := 1) hx hb dlaw_263 (by decide) ?_
  refine lv_iadd hx hb dlaw_264 ?_
  refine gx_top (z := nI (4 * t + 1)) (by rw [show (1 : Int32) = nI 1 from rfl, nI_add]) ?_
  refine va_sld hx hb hX hbl hbA hS (vp_in_nI (show 4 * t + 1 < L by omega) (by omega)) dlaw_265 ?_
  refine gx_top (z := xs (4 * t + 1)) (congrArg xs (nI_clamp (by omega))) ?_
  refine lv_aload_n hx hb dlaw_266 rfl (lv_at hl 1 rfl) ?_
  refine lv_iload hx hb dlaw_267 (lv_at hl 5 rfl) ?_
  refine lv_iconst (v := 2) hx hb dlaw_269 (by decide) ?_
  refine lv_iadd hx hb dlaw_270 ?_
  refine gx_top (z := nI (4 * t + 2)) (by rw [show (2 : Int32) = nI 2 from rfl, nI_add]) ?_
  refine va_sld hx hb hX hbl hbA hS (vp_in_nI (show 4 * t + 2 < L by omega) (by omega)) dlaw_271 ?_
  refine gx_top (z := xs (4 * t + 2)) (congrArg xs (nI_clamp (by omega))) ?_
  refine gx_calliS (C := "NurseryRowModel") (wr := nrW cI cP a σ' ++ [(ho, .inl (cL, 1, .inr (.inl f')))]) (As := [.int (xs (4 * t + 1)), .int (xs (4 * t + 2))]) (rest := []) E (hmd l D cJ cZ b) (gx_cwV hts l_Lw_78 k_Md_make ki_Md_make ke_Md_make z_Md n_Md_make ⟨by decide, by decide⟩) [10, 11, 12, 13, 14, 15, 16, 17, 18, 19, 20, 21, 22, 23, 24, 25, 26] [0, 1, 2, 3, 4, 5, 6, 7, 8, 9] rfl rfl rfl rfl (by decide) hKm hP hD hS hA (va_recv hK hP (ci := 2) (q0 := 10) rfl rfl) hl.1 rfl rfl (Nat.le_of_ble_eq_true rfl) ⟨by show 28 + t + 0 ≤ 601024; omega, by show 97286 + 10241 * t + 0 ≤ 7293034; omega⟩ dlaw_272 (fun r u H locs hq hP hD hS => ?_)
  rw [hq.2] at hP hD
  refine gx_top (z := rM) hq.1 ?_
  have hP : va_P D gC (lwW cI cP cL cJ cZ a ho b (σ', f', νM)) H := hP
  have hD : va_D (lwA s) (lwW cI cP cL cJ cZ a ho b (σ', f', νM)) := hD
  refine W.widen (k := 28 + t) (n := 97286 + 10241 * t) (by show 28 + t + 0 ≤ 28 + t; omega) (by show 97286 + 10241 * t + 0 ≤ 97286 + 10241 * t; omega) ?_
  refine lv_istore (lv' := [(6, .int rM), (5, .int k), (0, .ref bb), (1, .ref (a 0)), (2, .ref (b 0)), (3, .ref ho), (4, .int (nI (4 * t)))]) hx hb dlaw_275 hl (by decide) rfl (fun ls hl => ?_)
  refine lv_aload_n hx hb dlaw_277 rfl (lv_at hl 4 rfl) ?_
  refine gx_callpS (C := "NurseryRowModel") (As := []) (rest := []) E (qMd_thrown l D cJ cZ b νM) (gx_cwV hts l_Lw_68 k_Md_thrown ki_Md_thrown ke_Md_thrown z_Md n_Md_thrown ⟨by decide, by decide⟩) [10, 11, 12, 13, 14, 15, 16, 17, 18, 19, 20, 21, 22, 23, 24, 25, 26] rfl rfl hKm hP hD (va_recv hK hP (ci := 2) (q0 := 10) rfl rfl) hl.1 rfl rfl (Nat.le_of_ble_eq_true rfl) ⟨by show 28 + t ≤ 601024; omega, by show 97286 + 10241 * t ≤ 7293034; omega⟩ dlaw_278 ?_
  refine lv_iload hx hb dlaw_281 (lv_at hl 1 rfl) ?_
  refine lv_icmp_eq (tgt := 288) hx hb dlaw_283 (by decide) (fun c1 => ?_) (fun c1 => ?_)
  · skip
    refine lv_iload hx hb dlaw_288 (lv_at hl 1 rfl) ?_
    refine lv_if_ne (tgt := 305) hx hb dlaw_290 (by decide) (fun c2 => ?_) (fun c2 => ?_)
    · refine lv_goto (tgt := 952) hx hb dlaw_305 (by decide) ?_
      exact kk σ' f' νM H locs ls hkey.2.2 hP hD hS (lv_sub hl [2, 3, 4, 5, 6] rfl)
    · skip
      refine lv_aload_n hx hb dlaw_293 rfl (lv_at hl 5 rfl) ?_
      refine lv_iconst (v := 0) hx hb dlaw_294 (by decide) ?_
      refine va_lald hx hb hK hP 9 2 rfl rfl (by unfold vp_in; decide) dlaw_295 ?_
      refine lv_iload hx hb dlaw_296 (lv_at hl 0 rfl) ?_
      refine lv_i2l hx hb dlaw_298 rfl ?_
      refine W.lcmp hx hb dlaw_299 ?_
      have hcm : lg_cmp (f' (0 : Int32).toNatClampNeg) rM.toInt64 = 0 := by rw [show (0 : Int32).toNatClampNeg = 0 from by decide, hkey.2.1 c2]; simp [lg_cmp]
      refine lv_if_eq (tgt := 305) hx hb dlaw_300 (by decide) (fun c3 => ?_) (fun c3 => ?_)
      · refine lv_goto (tgt := 952) hx hb dlaw_305 (by decide) ?_
        exact kk σ' f' νM H locs ls hkey.2.2 hP hD hS (lv_sub hl [2, 3, 4, 5, 6] rfl)
      · exact absurd hcm c3
  · exact absurd hkey.1 c1
set_option maxHeartbeats 4000000 in
set_option maxRecDepth 100000 in
theorem lc_set (hC : lwC p s m meth c bb L xs D cI cP cL cJ cZ) (hfl : l.stackTraces = false) (ht : 4 * t + 4 ≤ L) (hL : L ≤ 2048) (hsim : Sim σ μ) (hP : va_P D gC (lwW cI cP cL cJ cZ a ho b (σ, f, μ)) H) (hD : va_D (lwA s) (lwW cI cP cL cJ cZ a ho b (σ, f, μ))) (hS : va_S (lwA s) s.heap H locs) (hl : lv_has ls 7 (lwv bb a b ho t))
    (kk : ∀ (σ : nSt) (f : Nat → Int64) (μ : mSt) (H : Heap) (locs : List Loc) (ls : Array Slot), Sim σ μ → va_P D gC (lwW cI cP cL cJ cZ a ho b (σ, f, μ)) H → va_D (lwA s) (lwW cI cP cL cJ cZ a ho b (σ, f, μ)) → va_S (lwA s) s.heap H locs → lv_has ls 7 (lwv bb a b ho t) → W p l e room_1 s m #[Value.ref bb] below meth c H locs (28 + t) (97286 + 10241 * t) (lw_Z below #[Value.ref bb] s) (F0 m 952 ls [])) :
    W p l e room_1 s m #[Value.ref bb] below meth c H locs (27 + t) (87045 + 10241 * t) (lw_Z below #[Value.ref bb] s) (F0 m 308 ls []) := by
  obtain ⟨E, hX, hbl, hZ, hT, hK⟩ := hC
  obtain ⟨hx, hb, hr, hml, hts, hown, hlocks, hnm⟩ := id E
  have hA : ∀ q : Nat, s.heap.size ≤ q → lwA s q := fun _ h => h
  have hbA : ¬ lwA s bb := Nat.not_le.mpr hbl
  have hKn : va_K D gC (hpT cI cP cL) s := hK.sub [0, 1, 2] rfl
  have hKm : va_K D gC (mdT cJ cZ) s := hK.sub [3, 4] rfl
  obtain ⟨post, thr, rM, νM, hcl, hmd, h1, h2⟩ := st_set hsim (xs (4 * t + 1)) (xs (4 * t + 2)) (xs (4 * t + 3))
  have hl : lv_has ls 7 [(0, .ref bb), (1, .ref (a 0)), (2, .ref (b 0)), (3, .ref ho), (4, .int (nI (4 * t)))] := hl
  refine lv_aload_n hx hb dlaw_308 rfl (lv_at hl 1 rfl) ?_
  refine lv_aload_n hx hb dlaw_309 rfl (lv_at hl 0 rfl) ?_
  refine lv_iload hx hb dlaw_310 (lv_at hl 4 rfl) ?_
  refine lv_iconst (v := 1) hx hb dlaw_312 (by decide) ?_
  refine lv_iadd hx hb dlaw_313 ?_
  refine gx_top (z := nI (4 * t + 1)) (by rw [show (1 : Int32) = nI 1 from rfl, nI_add]) ?_
  refine va_sld hx hb hX hbl hbA hS (vp_in_nI (show 4 * t + 1 < L by omega) (by omega)) dlaw_314 ?_
  refine gx_top (z := xs (4 * t + 1)) (congrArg xs (nI_clamp (by omega))) ?_
  refine lv_aload_n hx hb dlaw_315 rfl (lv_at hl 0 rfl) ?_
  refine lv_iload hx hb dlaw_316 (lv_at hl 4 rfl) ?_
  refine lv_iconst (v := 2) hx hb dlaw_318 (by decide) ?_
  refine lv_iadd hx hb dlaw_319 ?_
  refine gx_top (z := nI (4 * t + 2)) (by rw [show (2 : Int32) = nI 2 from rfl, nI_add]) ?_
  refine va_sld hx hb hX hbl hbA hS (vp_in_nI (show 4 * t + 2 < L by omega) (by omega)) dlaw_320 ?_
  refine gx_top (z := xs (4 * t + 2)) (congrArg xs (nI_clamp (by omega))) ?_
  refine lv_aload_n hx hb dlaw_321 rfl (lv_at hl 0 rfl) ?_
  refine lv_iload hx hb dlaw_322 (lv_at hl 4 rfl) ?_
  refine lv_iconst (v := 3) hx hb dlaw_324 (by decide) ?_
  refine lv_iadd hx hb dlaw_325 ?_
  refine gx_top (z := nI (4 * t + 3)) (by rw [show (3 : Int32) = nI 3 from rfl, nI_add]) ?_
  refine va_sld hx hb hX hbl hbA hS (vp_in_nI (show 4 * t + 3 < L by omega) (by omega)) dlaw_326 ?_
  refine gx_top (z := xs (4 * t + 3)) (congrArg xs (nI_clamp (by omega))) ?_
  refine lv_aload_n hx hb dlaw_327 rfl (lv_at hl 3 rfl) ?_
  refine gz_calls (wr := mdW cJ cZ b μ) (As := [.ref (a 0), .int (xs (4 * t + 1)), .int (xs (4 * t + 2)), .int (xs (4 * t + 3)), .ref ho]) (rest := []) E (hp_set l hfl D cI cP cL a ho σ f (xs (4 * t + 1)) (xs (4 * t + 2)) (xs (4 * t + 3)) post thr (hcl l hfl D cI cP a) (fun X hX => ⟨_, (h2 X hX).choose_spec.1⟩)) (gx_cwSW hts l_Lw_79 k_Lw_set kt_Lw_set z_Lw n_Lw_set ⟨by decide, by decide⟩) [0, 1, 2, 3, 4, 5, 6, 7, 8, 9] [10, 11, 12, 13, 14, 15, 16, 17, 18, 19, 20, 21, 22, 23, 24, 25, 26] rfl rfl rfl rfl (by decide) hKn hZ hT hP hD hS hA hl.1 rfl rfl (Nat.le_of_ble_eq_true rfl) ⟨by show 27 + t + 1 ≤ 601024; omega, by show 87045 + 10241 * t + 6 ≤ 7293034; omega⟩ dlaw_328 (fun k u H locs hq hP hD hS => ?_)
  obtain ⟨σ', f'⟩ := u
  have hkey := hp_key hq h1 h2 cds1u cds1z
  have hP : va_P D gC (lwW cI cP cL cJ cZ a ho b (σ', f', μ)) H := hP.sub [17, 18, 19, 20, 21, 22, 23, 24, 25, 26, 0, 1, 2, 3, 4, 5, 6, 7, 8, 9, 10, 11, 12, 13, 14, 15, 16] rfl
  have hD : va_D (lwA s) (lwW cI cP cL cJ cZ a ho b (σ', f', μ)) := hD.sub [17, 18, 19, 20, 21, 22, 23, 24, 25, 26, 0, 1, 2, 3, 4, 5, 6, 7, 8, 9, 10, 11, 12, 13, 14, 15, 16] rfl rfl
  refine W.widen (k := 28 + t) (n := 97286 + 10241 * t) (by show 27 + t + 1 ≤ 28 + t; omega) (by show 87045 + 10241 * t + 6 ≤ 97286 + 10241 * t; omega) ?_
  refine lv_istore (lv' := [(5, .int k), (0, .ref bb), (1, .ref (a 0)), (2, .ref (b 0)), (3, .ref ho), (4, .int (nI (4 * t)))]) hx hb dlaw_331 hl (by decide) rfl (fun ls hl => ?_)
  refine lv_aload_n hx hb dlaw_333 rfl (lv_at hl 3 rfl) ?_
  refine lv_aload_n hx hb dlaw_334 rfl (lv_at hl 1 rfl) ?_
  refine lv_iload hx hb dlaw_335 (lv_at hl 5 rfl) ?_
  refine lv_iconst (v := 1) hx hb dlaw_337 (by decide) ?_
  refine lv_iadd hx hb dlaw_338 ?_
  refine gx_top (z := nI (4 * t + 1)) (by rw [show (1 : Int32) = nI 1 from rfl, nI_add]) ?_
  refine va_sld hx hb hX hbl hbA hS (vp_in_nI (show 4 * t + 1 < L by omega) (by omega)) dlaw_339 ?_
  refine gx_top (z := xs (4 * t + 1)) (congrArg xs (nI_clamp (by omega))) ?_
  refine lv_aload_n hx hb dlaw_340 rfl (lv_at hl 1 rfl) ?_
  refine lv_iload hx hb dlaw_341 (lv_at hl 5 rfl) ?_
  refine lv_iconst (v := 2) hx hb dlaw_343 (by decide) ?_
  refine lv_iadd hx hb dlaw_344 ?_
  refine gx_top (z := nI (4 * t + 2)) (by rw [show (2 : Int32) = nI 2 from rfl, nI_add]) ?_
  refine va_sld hx hb hX hbl hbA hS (vp_in_nI (show 4 * t + 2 < L by omega) (by omega)) dlaw_345 ?_
  refine gx_top (z := xs (4 * t + 2)) (congrArg xs (nI_clamp (by omega))) ?_
  refine lv_aload_n hx hb dlaw_346 rfl (lv_at hl 1 rfl) ?_
  refine lv_iload hx hb dlaw_347 (lv_at hl 5 rfl) ?_
  refine lv_iconst (v := 3) hx hb dlaw_349 (by decide) ?_
  refine lv_iadd hx hb dlaw_350 ?_
  refine gx_top (z := nI (4 * t + 3)) (by rw [show (3 : Int32) = nI 3 from rfl, nI_add]) ?_
  refine va_sld hx hb hX hbl hbA hS (vp_in_nI (show 4 * t + 3 < L by omega) (by omega)) dlaw_351 ?_
  refine gx_top (z := xs (4 * t + 3)) (congrArg xs (nI_clamp (by omega))) ?_
  refine gx_calliS (C := "NurseryRowModel") (wr := nrW cI cP a σ' ++ [(ho, .inl (cL, 1, .inr (.inl f')))]) (As := [.int (xs (4 * t + 1)), .int (xs (4 * t + 2)), .int (xs (4 * t + 3))]) (rest := []) E (hmd l D cJ cZ b) (gx_cwV hts l_Lw_81 k_Md_set ki_Md_set ke_Md_set z_Md n_Md_set ⟨by decide, by decide⟩) [10, 11, 12, 13, 14, 15, 16, 17, 18, 19, 20, 21, 22, 23, 24, 25, 26] [0, 1, 2, 3, 4, 5, 6, 7, 8, 9] rfl rfl rfl rfl (by decide) hKm hP hD hS hA (va_recv hK hP (ci := 2) (q0 := 10) rfl rfl) hl.1 rfl rfl (Nat.le_of_ble_eq_true rfl) ⟨by show 28 + t + 0 ≤ 601024; omega, by show 97286 + 10241 * t + 0 ≤ 7293034; omega⟩ dlaw_352 (fun r u H locs hq hP hD hS => ?_)
  rw [hq.2] at hP hD
  refine gx_top (z := rM) hq.1 ?_
  have hP : va_P D gC (lwW cI cP cL cJ cZ a ho b (σ', f', νM)) H := hP
  have hD : va_D (lwA s) (lwW cI cP cL cJ cZ a ho b (σ', f', νM)) := hD
  refine W.widen (k := 28 + t) (n := 97286 + 10241 * t) (by show 28 + t + 0 ≤ 28 + t; omega) (by show 97286 + 10241 * t + 0 ≤ 97286 + 10241 * t; omega) ?_
  refine lv_istore (lv' := [(6, .int rM), (5, .int k), (0, .ref bb), (1, .ref (a 0)), (2, .ref (b 0)), (3, .ref ho), (4, .int (nI (4 * t)))]) hx hb dlaw_355 hl (by decide) rfl (fun ls hl => ?_)
  refine lv_aload_n hx hb dlaw_357 rfl (lv_at hl 4 rfl) ?_
  refine gx_callpS (C := "NurseryRowModel") (As := []) (rest := []) E (qMd_thrown l D cJ cZ b νM) (gx_cwV hts l_Lw_68 k_Md_thrown ki_Md_thrown ke_Md_thrown z_Md n_Md_thrown ⟨by decide, by decide⟩) [10, 11, 12, 13, 14, 15, 16, 17, 18, 19, 20, 21, 22, 23, 24, 25, 26] rfl rfl hKm hP hD (va_recv hK hP (ci := 2) (q0 := 10) rfl rfl) hl.1 rfl rfl (Nat.le_of_ble_eq_true rfl) ⟨by show 28 + t ≤ 601024; omega, by show 97286 + 10241 * t ≤ 7293034; omega⟩ dlaw_358 ?_
  refine lv_iload hx hb dlaw_361 (lv_at hl 1 rfl) ?_
  refine lv_icmp_eq (tgt := 368) hx hb dlaw_363 (by decide) (fun c1 => ?_) (fun c1 => ?_)
  · skip
    refine lv_iload hx hb dlaw_368 (lv_at hl 1 rfl) ?_
    refine lv_if_ne (tgt := 385) hx hb dlaw_370 (by decide) (fun c2 => ?_) (fun c2 => ?_)
    · refine lv_goto (tgt := 952) hx hb dlaw_385 (by decide) ?_
      exact kk σ' f' νM H locs ls hkey.2.2 hP hD hS (lv_sub hl [2, 3, 4, 5, 6] rfl)
    · skip
      refine lv_aload_n hx hb dlaw_373 rfl (lv_at hl 5 rfl) ?_
      refine lv_iconst (v := 0) hx hb dlaw_374 (by decide) ?_
      refine va_lald hx hb hK hP 9 2 rfl rfl (by unfold vp_in; decide) dlaw_375 ?_
      refine lv_iload hx hb dlaw_376 (lv_at hl 0 rfl) ?_
      refine lv_i2l hx hb dlaw_378 rfl ?_
      refine W.lcmp hx hb dlaw_379 ?_
      have hcm : lg_cmp (f' (0 : Int32).toNatClampNeg) rM.toInt64 = 0 := by rw [show (0 : Int32).toNatClampNeg = 0 from by decide, hkey.2.1 c2]; simp [lg_cmp]
      refine lv_if_eq (tgt := 385) hx hb dlaw_380 (by decide) (fun c3 => ?_) (fun c3 => ?_)
      · refine lv_goto (tgt := 952) hx hb dlaw_385 (by decide) ?_
        exact kk σ' f' νM H locs ls hkey.2.2 hP hD hS (lv_sub hl [2, 3, 4, 5, 6] rfl)
      · exact absurd hcm c3
  · exact absurd hkey.1 c1
set_option maxHeartbeats 4000000 in
set_option maxRecDepth 100000 in
theorem lc_get (hC : lwC p s m meth c bb L xs D cI cP cL cJ cZ) (hfl : l.stackTraces = false) (ht : 4 * t + 4 ≤ L) (hL : L ≤ 2048) (hsim : Sim σ μ) (hP : va_P D gC (lwW cI cP cL cJ cZ a ho b (σ, f, μ)) H) (hD : va_D (lwA s) (lwW cI cP cL cJ cZ a ho b (σ, f, μ))) (hS : va_S (lwA s) s.heap H locs) (hl : lv_has ls 7 (lwv bb a b ho t))
    (kk : ∀ (σ : nSt) (f : Nat → Int64) (μ : mSt) (H : Heap) (locs : List Loc) (ls : Array Slot), Sim σ μ → va_P D gC (lwW cI cP cL cJ cZ a ho b (σ, f, μ)) H → va_D (lwA s) (lwW cI cP cL cJ cZ a ho b (σ, f, μ)) → va_S (lwA s) s.heap H locs → lv_has ls 7 (lwv bb a b ho t) → W p l e room_1 s m #[Value.ref bb] below meth c H locs (28 + t) (97286 + 10241 * t) (lw_Z below #[Value.ref bb] s) (F0 m 952 ls [])) :
    W p l e room_1 s m #[Value.ref bb] below meth c H locs (27 + t) (87045 + 10241 * t) (lw_Z below #[Value.ref bb] s) (F0 m 388 ls []) := by
  obtain ⟨E, hX, hbl, hZ, hT, hK⟩ := hC
  obtain ⟨hx, hb, hr, hml, hts, hown, hlocks, hnm⟩ := id E
  have hA : ∀ q : Nat, s.heap.size ≤ q → lwA s q := fun _ h => h
  have hbA : ¬ lwA s bb := Nat.not_le.mpr hbl
  have hKn : va_K D gC (hpT cI cP cL) s := hK.sub [0, 1, 2] rfl
  have hKm : va_K D gC (mdT cJ cZ) s := hK.sub [3, 4] rfl
  obtain ⟨post, thr, rM, νM, hcl, hmd, h1, h2⟩ := st_get hsim (xs (4 * t + 1)) (xs (4 * t + 2))
  have hl : lv_has ls 7 [(0, .ref bb), (1, .ref (a 0)), (2, .ref (b 0)), (3, .ref ho), (4, .int (nI (4 * t)))] := hl
  refine lv_aload_n hx hb dlaw_388 rfl (lv_at hl 1 rfl) ?_
  refine lv_aload_n hx hb dlaw_389 rfl (lv_at hl 0 rfl) ?_
  refine lv_iload hx hb dlaw_390 (lv_at hl 4 rfl) ?_
  refine lv_iconst (v := 1) hx hb dlaw_392 (by decide) ?_
  refine lv_iadd hx hb dlaw_393 ?_
  refine gx_top (z := nI (4 * t + 1)) (by rw [show (1 : Int32) = nI 1 from rfl, nI_add]) ?_
  refine va_sld hx hb hX hbl hbA hS (vp_in_nI (show 4 * t + 1 < L by omega) (by omega)) dlaw_394 ?_
  refine gx_top (z := xs (4 * t + 1)) (congrArg xs (nI_clamp (by omega))) ?_
  refine lv_aload_n hx hb dlaw_395 rfl (lv_at hl 0 rfl) ?_
  refine lv_iload hx hb dlaw_396 (lv_at hl 4 rfl) ?_
  refine lv_iconst (v := 2) hx hb dlaw_398 (by decide) ?_
  refine lv_iadd hx hb dlaw_399 ?_
  refine gx_top (z := nI (4 * t + 2)) (by rw [show (2 : Int32) = nI 2 from rfl, nI_add]) ?_
  refine va_sld hx hb hX hbl hbA hS (vp_in_nI (show 4 * t + 2 < L by omega) (by omega)) dlaw_400 ?_
  refine gx_top (z := xs (4 * t + 2)) (congrArg xs (nI_clamp (by omega))) ?_
  refine lv_aload_n hx hb dlaw_401 rfl (lv_at hl 3 rfl) ?_
  refine gz_calls (wr := mdW cJ cZ b μ) (As := [.ref (a 0), .int (xs (4 * t + 1)), .int (xs (4 * t + 2)), .ref ho]) (rest := []) E (hp_get l hfl D cI cP cL a ho σ f (xs (4 * t + 1)) (xs (4 * t + 2)) post thr (hcl l hfl D cI cP a) (fun X hX => ⟨_, (h2 X hX).choose_spec.1⟩)) (gx_cwSW hts l_Lw_82 k_Lw_get kt_Lw_get z_Lw n_Lw_get ⟨by decide, by decide⟩) [0, 1, 2, 3, 4, 5, 6, 7, 8, 9] [10, 11, 12, 13, 14, 15, 16, 17, 18, 19, 20, 21, 22, 23, 24, 25, 26] rfl rfl rfl rfl (by decide) hKn hZ hT hP hD hS hA hl.1 rfl rfl (Nat.le_of_ble_eq_true rfl) ⟨by show 27 + t + 1 ≤ 601024; omega, by show 87045 + 10241 * t + 6 ≤ 7293034; omega⟩ dlaw_402 (fun k u H locs hq hP hD hS => ?_)
  obtain ⟨σ', f'⟩ := u
  have hkey := hp_key hq h1 h2 cds1u cds1z
  have hP : va_P D gC (lwW cI cP cL cJ cZ a ho b (σ', f', μ)) H := hP.sub [17, 18, 19, 20, 21, 22, 23, 24, 25, 26, 0, 1, 2, 3, 4, 5, 6, 7, 8, 9, 10, 11, 12, 13, 14, 15, 16] rfl
  have hD : va_D (lwA s) (lwW cI cP cL cJ cZ a ho b (σ', f', μ)) := hD.sub [17, 18, 19, 20, 21, 22, 23, 24, 25, 26, 0, 1, 2, 3, 4, 5, 6, 7, 8, 9, 10, 11, 12, 13, 14, 15, 16] rfl rfl
  refine W.widen (k := 28 + t) (n := 97286 + 10241 * t) (by show 27 + t + 1 ≤ 28 + t; omega) (by show 87045 + 10241 * t + 6 ≤ 97286 + 10241 * t; omega) ?_
  refine lv_istore (lv' := [(5, .int k), (0, .ref bb), (1, .ref (a 0)), (2, .ref (b 0)), (3, .ref ho), (4, .int (nI (4 * t)))]) hx hb dlaw_405 hl (by decide) rfl (fun ls hl => ?_)
  refine lv_aload_n hx hb dlaw_407 rfl (lv_at hl 3 rfl) ?_
  refine lv_aload_n hx hb dlaw_408 rfl (lv_at hl 1 rfl) ?_
  refine lv_iload hx hb dlaw_409 (lv_at hl 5 rfl) ?_
  refine lv_iconst (v := 1) hx hb dlaw_411 (by decide) ?_
  refine lv_iadd hx hb dlaw_412 ?_
  refine gx_top (z := nI (4 * t + 1)) (by rw [show (1 : Int32) = nI 1 from rfl, nI_add]) ?_
  refine va_sld hx hb hX hbl hbA hS (vp_in_nI (show 4 * t + 1 < L by omega) (by omega)) dlaw_413 ?_
  refine gx_top (z := xs (4 * t + 1)) (congrArg xs (nI_clamp (by omega))) ?_
  refine lv_aload_n hx hb dlaw_414 rfl (lv_at hl 1 rfl) ?_
  refine lv_iload hx hb dlaw_415 (lv_at hl 5 rfl) ?_
  refine lv_iconst (v := 2) hx hb dlaw_417 (by decide) ?_
  refine lv_iadd hx hb dlaw_418 ?_
  refine gx_top (z := nI (4 * t + 2)) (by rw [show (2 : Int32) = nI 2 from rfl, nI_add]) ?_
  refine va_sld hx hb hX hbl hbA hS (vp_in_nI (show 4 * t + 2 < L by omega) (by omega)) dlaw_419 ?_
  refine gx_top (z := xs (4 * t + 2)) (congrArg xs (nI_clamp (by omega))) ?_
  refine gx_calliS (C := "NurseryRowModel") (wr := nrW cI cP a σ' ++ [(ho, .inl (cL, 1, .inr (.inl f')))]) (As := [.int (xs (4 * t + 1)), .int (xs (4 * t + 2))]) (rest := []) E (hmd l D cJ cZ b) (gx_cwV hts l_Lw_84 k_Md_get ki_Md_get ke_Md_get z_Md n_Md_get ⟨by decide, by decide⟩) [10, 11, 12, 13, 14, 15, 16, 17, 18, 19, 20, 21, 22, 23, 24, 25, 26] [0, 1, 2, 3, 4, 5, 6, 7, 8, 9] rfl rfl rfl rfl (by decide) hKm hP hD hS hA (va_recv hK hP (ci := 2) (q0 := 10) rfl rfl) hl.1 rfl rfl (Nat.le_of_ble_eq_true rfl) ⟨by show 28 + t + 0 ≤ 601024; omega, by show 97286 + 10241 * t + 0 ≤ 7293034; omega⟩ dlaw_420 (fun r u H locs hq hP hD hS => ?_)
  rw [hq.2] at hP hD
  refine gx_top (z := rM) hq.1 ?_
  have hP : va_P D gC (lwW cI cP cL cJ cZ a ho b (σ', f', νM)) H := hP
  have hD : va_D (lwA s) (lwW cI cP cL cJ cZ a ho b (σ', f', νM)) := hD
  refine W.widen (k := 28 + t) (n := 97286 + 10241 * t) (by show 28 + t + 0 ≤ 28 + t; omega) (by show 97286 + 10241 * t + 0 ≤ 97286 + 10241 * t; omega) ?_
  refine lv_istore (lv' := [(6, .int rM), (5, .int k), (0, .ref bb), (1, .ref (a 0)), (2, .ref (b 0)), (3, .ref ho), (4, .int (nI (4 * t)))]) hx hb dlaw_423 hl (by decide) rfl (fun ls hl => ?_)
  refine lv_aload_n hx hb dlaw_425 rfl (lv_at hl 4 rfl) ?_
  refine gx_callpS (C := "NurseryRowModel") (As := []) (rest := []) E (qMd_thrown l D cJ cZ b νM) (gx_cwV hts l_Lw_68 k_Md_thrown ki_Md_thrown ke_Md_thrown z_Md n_Md_thrown ⟨by decide, by decide⟩) [10, 11, 12, 13, 14, 15, 16, 17, 18, 19, 20, 21, 22, 23, 24, 25, 26] rfl rfl hKm hP hD (va_recv hK hP (ci := 2) (q0 := 10) rfl rfl) hl.1 rfl rfl (Nat.le_of_ble_eq_true rfl) ⟨by show 28 + t ≤ 601024; omega, by show 97286 + 10241 * t ≤ 7293034; omega⟩ dlaw_426 ?_
  refine lv_iload hx hb dlaw_429 (lv_at hl 1 rfl) ?_
  refine lv_icmp_eq (tgt := 436) hx hb dlaw_431 (by decide) (fun c1 => ?_) (fun c1 => ?_)
  · skip
    refine lv_iload hx hb dlaw_436 (lv_at hl 1 rfl) ?_
    refine lv_if_ne (tgt := 453) hx hb dlaw_438 (by decide) (fun c2 => ?_) (fun c2 => ?_)
    · refine lv_goto (tgt := 952) hx hb dlaw_453 (by decide) ?_
      exact kk σ' f' νM H locs ls hkey.2.2 hP hD hS (lv_sub hl [2, 3, 4, 5, 6] rfl)
    · skip
      refine lv_aload_n hx hb dlaw_441 rfl (lv_at hl 5 rfl) ?_
      refine lv_iconst (v := 0) hx hb dlaw_442 (by decide) ?_
      refine va_lald hx hb hK hP 9 2 rfl rfl (by unfold vp_in; decide) dlaw_443 ?_
      refine lv_iload hx hb dlaw_444 (lv_at hl 0 rfl) ?_
      refine lv_i2l hx hb dlaw_446 rfl ?_
      refine W.lcmp hx hb dlaw_447 ?_
      have hcm : lg_cmp (f' (0 : Int32).toNatClampNeg) rM.toInt64 = 0 := by rw [show (0 : Int32).toNatClampNeg = 0 from by decide, hkey.2.1 c2]; simp [lg_cmp]
      refine lv_if_eq (tgt := 453) hx hb dlaw_448 (by decide) (fun c3 => ?_) (fun c3 => ?_)
      · refine lv_goto (tgt := 952) hx hb dlaw_453 (by decide) ?_
        exact kk σ' f' νM H locs ls hkey.2.2 hP hD hS (lv_sub hl [2, 3, 4, 5, 6] rfl)
      · exact absurd hcm c3
  · exact absurd hkey.1 c1
set_option maxHeartbeats 4000000 in
set_option maxRecDepth 100000 in
theorem lc_put (hC : lwC p s m meth c bb L xs D cI cP cL cJ cZ) (hfl : l.stackTraces = false) (ht : 4 * t + 4 ≤ L) (hL : L ≤ 2048) (hsim : Sim σ μ) (hP : va_P D gC (lwW cI cP cL cJ cZ a ho b (σ, f, μ)) H) (hD : va_D (lwA s) (lwW cI cP cL cJ cZ a ho b (σ, f, μ))) (hS : va_S (lwA s) s.heap H locs) (hl : lv_has ls 7 (lwv bb a b ho t))
    (kk : ∀ (σ : nSt) (f : Nat → Int64) (μ : mSt) (H : Heap) (locs : List Loc) (ls : Array Slot), Sim σ μ → va_P D gC (lwW cI cP cL cJ cZ a ho b (σ, f, μ)) H → va_D (lwA s) (lwW cI cP cL cJ cZ a ho b (σ, f, μ)) → va_S (lwA s) s.heap H locs → lv_has ls 7 (lwv bb a b ho t) → W p l e room_1 s m #[Value.ref bb] below meth c H locs (28 + t) (97286 + 10241 * t) (lw_Z below #[Value.ref bb] s) (F0 m 952 ls [])) :
    W p l e room_1 s m #[Value.ref bb] below meth c H locs (27 + t) (87045 + 10241 * t) (lw_Z below #[Value.ref bb] s) (F0 m 456 ls []) := by
  obtain ⟨E, hX, hbl, hZ, hT, hK⟩ := hC
  obtain ⟨hx, hb, hr, hml, hts, hown, hlocks, hnm⟩ := id E
  have hA : ∀ q : Nat, s.heap.size ≤ q → lwA s q := fun _ h => h
  have hbA : ¬ lwA s bb := Nat.not_le.mpr hbl
  have hKn : va_K D gC (hpT cI cP cL) s := hK.sub [0, 1, 2] rfl
  have hKm : va_K D gC (mdT cJ cZ) s := hK.sub [3, 4] rfl
  obtain ⟨post, thr, rM, νM, hcl, hmd, h1, h2⟩ := st_put hsim (xs (4 * t + 1)) (xs (4 * t + 2)) (xs (4 * t + 3))
  have hl : lv_has ls 7 [(0, .ref bb), (1, .ref (a 0)), (2, .ref (b 0)), (3, .ref ho), (4, .int (nI (4 * t)))] := hl
  refine lv_aload_n hx hb dlaw_456 rfl (lv_at hl 1 rfl) ?_
  refine lv_aload_n hx hb dlaw_457 rfl (lv_at hl 0 rfl) ?_
  refine lv_iload hx hb dlaw_458 (lv_at hl 4 rfl) ?_
  refine lv_iconst (v := 1) hx hb dlaw_460 (by decide) ?_
  refine lv_iadd hx hb dlaw_461 ?_
  refine gx_top (z := nI (4 * t + 1)) (by rw [show (1 : Int32) = nI 1 from rfl, nI_add]) ?_
  refine va_sld hx hb hX hbl hbA hS (vp_in_nI (show 4 * t + 1 < L by omega) (by omega)) dlaw_462 ?_
  refine gx_top (z := xs (4 * t + 1)) (congrArg xs (nI_clamp (by omega))) ?_
  refine lv_aload_n hx hb dlaw_463 rfl (lv_at hl 0 rfl) ?_
  refine lv_iload hx hb dlaw_464 (lv_at hl 4 rfl) ?_
  refine lv_iconst (v := 2) hx hb dlaw_466 (by decide) ?_
  refine lv_iadd hx hb dlaw_467 ?_
  refine gx_top (z := nI (4 * t + 2)) (by rw [show (2 : Int32) = nI 2 from rfl, nI_add]) ?_
  refine va_sld hx hb hX hbl hbA hS (vp_in_nI (show 4 * t + 2 < L by omega) (by omega)) dlaw_468 ?_
  refine gx_top (z := xs (4 * t + 2)) (congrArg xs (nI_clamp (by omega))) ?_
  refine lv_aload_n hx hb dlaw_469 rfl (lv_at hl 0 rfl) ?_
  refine lv_iload hx hb dlaw_470 (lv_at hl 4 rfl) ?_
  refine lv_iconst (v := 3) hx hb dlaw_472 (by decide) ?_
  refine lv_iadd hx hb dlaw_473 ?_
  refine gx_top (z := nI (4 * t + 3)) (by rw [show (3 : Int32) = nI 3 from rfl, nI_add]) ?_
  refine va_sld hx hb hX hbl hbA hS (vp_in_nI (show 4 * t + 3 < L by omega) (by omega)) dlaw_474 ?_
  refine gx_top (z := xs (4 * t + 3)) (congrArg xs (nI_clamp (by omega))) ?_
  refine lv_aload_n hx hb dlaw_475 rfl (lv_at hl 3 rfl) ?_
  refine gz_calls (wr := mdW cJ cZ b μ) (As := [.ref (a 0), .int (xs (4 * t + 1)), .int (xs (4 * t + 2)), .int (xs (4 * t + 3)), .ref ho]) (rest := []) E (hp_put l hfl D cI cP cL a ho σ f (xs (4 * t + 1)) (xs (4 * t + 2)) (xs (4 * t + 3)) post thr (hcl l hfl D cI cP a) (fun X hX => ⟨_, (h2 X hX).choose_spec.1⟩)) (gx_cwSW hts l_Lw_85 k_Lw_put kt_Lw_put z_Lw n_Lw_put ⟨by decide, by decide⟩) [0, 1, 2, 3, 4, 5, 6, 7, 8, 9] [10, 11, 12, 13, 14, 15, 16, 17, 18, 19, 20, 21, 22, 23, 24, 25, 26] rfl rfl rfl rfl (by decide) hKn hZ hT hP hD hS hA hl.1 rfl rfl (Nat.le_of_ble_eq_true rfl) ⟨by show 27 + t + 1 ≤ 601024; omega, by show 87045 + 10241 * t + 6 ≤ 7293034; omega⟩ dlaw_476 (fun k u H locs hq hP hD hS => ?_)
  obtain ⟨σ', f'⟩ := u
  have hkey := hp_key hq h1 h2 cds1u cds1z
  have hP : va_P D gC (lwW cI cP cL cJ cZ a ho b (σ', f', μ)) H := hP.sub [17, 18, 19, 20, 21, 22, 23, 24, 25, 26, 0, 1, 2, 3, 4, 5, 6, 7, 8, 9, 10, 11, 12, 13, 14, 15, 16] rfl
  have hD : va_D (lwA s) (lwW cI cP cL cJ cZ a ho b (σ', f', μ)) := hD.sub [17, 18, 19, 20, 21, 22, 23, 24, 25, 26, 0, 1, 2, 3, 4, 5, 6, 7, 8, 9, 10, 11, 12, 13, 14, 15, 16] rfl rfl
  refine W.widen (k := 28 + t) (n := 97286 + 10241 * t) (by show 27 + t + 1 ≤ 28 + t; omega) (by show 87045 + 10241 * t + 6 ≤ 97286 + 10241 * t; omega) ?_
  refine lv_istore (lv' := [(5, .int k), (0, .ref bb), (1, .ref (a 0)), (2, .ref (b 0)), (3, .ref ho), (4, .int (nI (4 * t)))]) hx hb dlaw_479 hl (by decide) rfl (fun ls hl => ?_)
  refine lv_aload_n hx hb dlaw_481 rfl (lv_at hl 3 rfl) ?_
  refine lv_aload_n hx hb dlaw_482 rfl (lv_at hl 1 rfl) ?_
  refine lv_iload hx hb dlaw_483 (lv_at hl 5 rfl) ?_
  refine lv_iconst (v := 1) hx hb dlaw_485 (by decide) ?_
  refine lv_iadd hx hb dlaw_486 ?_
  refine gx_top (z := nI (4 * t + 1)) (by rw [show (1 : Int32) = nI 1 from rfl, nI_add]) ?_
  refine va_sld hx hb hX hbl hbA hS (vp_in_nI (show 4 * t + 1 < L by omega) (by omega)) dlaw_487 ?_
  refine gx_top (z := xs (4 * t + 1)) (congrArg xs (nI_clamp (by omega))) ?_
  refine lv_aload_n hx hb dlaw_488 rfl (lv_at hl 1 rfl) ?_
  refine lv_iload hx hb dlaw_489 (lv_at hl 5 rfl) ?_
  refine lv_iconst (v := 2) hx hb dlaw_491 (by decide) ?_
  refine lv_iadd hx hb dlaw_492 ?_
  refine gx_top (z := nI (4 * t + 2)) (by rw [show (2 : Int32) = nI 2 from rfl, nI_add]) ?_
  refine va_sld hx hb hX hbl hbA hS (vp_in_nI (show 4 * t + 2 < L by omega) (by omega)) dlaw_493 ?_
  refine gx_top (z := xs (4 * t + 2)) (congrArg xs (nI_clamp (by omega))) ?_
  refine lv_aload_n hx hb dlaw_494 rfl (lv_at hl 1 rfl) ?_
  refine lv_iload hx hb dlaw_495 (lv_at hl 5 rfl) ?_
  refine lv_iconst (v := 3) hx hb dlaw_497 (by decide) ?_
  refine lv_iadd hx hb dlaw_498 ?_
  refine gx_top (z := nI (4 * t + 3)) (by rw [show (3 : Int32) = nI 3 from rfl, nI_add]) ?_
  refine va_sld hx hb hX hbl hbA hS (vp_in_nI (show 4 * t + 3 < L by omega) (by omega)) dlaw_499 ?_
  refine gx_top (z := xs (4 * t + 3)) (congrArg xs (nI_clamp (by omega))) ?_
  refine gx_calliS (C := "NurseryRowModel") (wr := nrW cI cP a σ' ++ [(ho, .inl (cL, 1, .inr (.inl f')))]) (As := [.int (xs (4 * t + 1)), .int (xs (4 * t + 2)), .int (xs (4 * t + 3))]) (rest := []) E (hmd l D cJ cZ b) (gx_cwV hts l_Lw_87 k_Md_put ki_Md_put ke_Md_put z_Md n_Md_put ⟨by decide, by decide⟩) [10, 11, 12, 13, 14, 15, 16, 17, 18, 19, 20, 21, 22, 23, 24, 25, 26] [0, 1, 2, 3, 4, 5, 6, 7, 8, 9] rfl rfl rfl rfl (by decide) hKm hP hD hS hA (va_recv hK hP (ci := 2) (q0 := 10) rfl rfl) hl.1 rfl rfl (Nat.le_of_ble_eq_true rfl) ⟨by show 28 + t + 0 ≤ 601024; omega, by show 97286 + 10241 * t + 0 ≤ 7293034; omega⟩ dlaw_500 (fun r u H locs hq hP hD hS => ?_)
  rw [hq.2] at hP hD
  refine gx_top (z := rM) hq.1 ?_
  have hP : va_P D gC (lwW cI cP cL cJ cZ a ho b (σ', f', νM)) H := hP
  have hD : va_D (lwA s) (lwW cI cP cL cJ cZ a ho b (σ', f', νM)) := hD
  refine W.widen (k := 28 + t) (n := 97286 + 10241 * t) (by show 28 + t + 0 ≤ 28 + t; omega) (by show 97286 + 10241 * t + 0 ≤ 97286 + 10241 * t; omega) ?_
  refine lv_istore (lv' := [(6, .int rM), (5, .int k), (0, .ref bb), (1, .ref (a 0)), (2, .ref (b 0)), (3, .ref ho), (4, .int (nI (4 * t)))]) hx hb dlaw_503 hl (by decide) rfl (fun ls hl => ?_)
  refine lv_aload_n hx hb dlaw_505 rfl (lv_at hl 4 rfl) ?_
  refine gx_callpS (C := "NurseryRowModel") (As := []) (rest := []) E (qMd_thrown l D cJ cZ b νM) (gx_cwV hts l_Lw_68 k_Md_thrown ki_Md_thrown ke_Md_thrown z_Md n_Md_thrown ⟨by decide, by decide⟩) [10, 11, 12, 13, 14, 15, 16, 17, 18, 19, 20, 21, 22, 23, 24, 25, 26] rfl rfl hKm hP hD (va_recv hK hP (ci := 2) (q0 := 10) rfl rfl) hl.1 rfl rfl (Nat.le_of_ble_eq_true rfl) ⟨by show 28 + t ≤ 601024; omega, by show 97286 + 10241 * t ≤ 7293034; omega⟩ dlaw_506 ?_
  refine lv_iload hx hb dlaw_509 (lv_at hl 1 rfl) ?_
  refine lv_icmp_eq (tgt := 516) hx hb dlaw_511 (by decide) (fun c1 => ?_) (fun c1 => ?_)
  · skip
    refine lv_iload hx hb dlaw_516 (lv_at hl 1 rfl) ?_
    refine lv_if_ne (tgt := 533) hx hb dlaw_518 (by decide) (fun c2 => ?_) (fun c2 => ?_)
    · refine lv_goto (tgt := 952) hx hb dlaw_533 (by decide) ?_
      exact kk σ' f' νM H locs ls hkey.2.2 hP hD hS (lv_sub hl [2, 3, 4, 5, 6] rfl)
    · skip
      refine lv_aload_n hx hb dlaw_521 rfl (lv_at hl 5 rfl) ?_
      refine lv_iconst (v := 0) hx hb dlaw_522 (by decide) ?_
      refine va_lald hx hb hK hP 9 2 rfl rfl (by unfold vp_in; decide) dlaw_523 ?_
      refine lv_iload hx hb dlaw_524 (lv_at hl 0 rfl) ?_
      refine lv_i2l hx hb dlaw_526 rfl ?_
      refine W.lcmp hx hb dlaw_527 ?_
      have hcm : lg_cmp (f' (0 : Int32).toNatClampNeg) rM.toInt64 = 0 := by rw [show (0 : Int32).toNatClampNeg = 0 from by decide, hkey.2.1 c2]; simp [lg_cmp]
      refine lv_if_eq (tgt := 533) hx hb dlaw_528 (by decide) (fun c3 => ?_) (fun c3 => ?_)
      · refine lv_goto (tgt := 952) hx hb dlaw_533 (by decide) ?_
        exact kk σ' f' νM H locs ls hkey.2.2 hP hD hS (lv_sub hl [2, 3, 4, 5, 6] rfl)
      · exact absurd hcm c3
  · exact absurd hkey.1 c1
set_option maxHeartbeats 4000000 in
set_option maxRecDepth 100000 in
theorem lc_word (hC : lwC p s m meth c bb L xs D cI cP cL cJ cZ) (hfl : l.stackTraces = false) (ht : 4 * t + 4 ≤ L) (hL : L ≤ 2048) (hsim : Sim σ μ) (hP : va_P D gC (lwW cI cP cL cJ cZ a ho b (σ, f, μ)) H) (hD : va_D (lwA s) (lwW cI cP cL cJ cZ a ho b (σ, f, μ))) (hS : va_S (lwA s) s.heap H locs) (hl : lv_has ls 7 (lwv bb a b ho t))
    (kk : ∀ (σ : nSt) (f : Nat → Int64) (μ : mSt) (H : Heap) (locs : List Loc) (ls : Array Slot), Sim σ μ → va_P D gC (lwW cI cP cL cJ cZ a ho b (σ, f, μ)) H → va_D (lwA s) (lwW cI cP cL cJ cZ a ho b (σ, f, μ)) → va_S (lwA s) s.heap H locs → lv_has ls 7 (lwv bb a b ho t) → W p l e room_1 s m #[Value.ref bb] below meth c H locs (28 + t) (97286 + 10241 * t) (lw_Z below #[Value.ref bb] s) (F0 m 952 ls [])) :
    W p l e room_1 s m #[Value.ref bb] below meth c H locs (27 + t) (87045 + 10241 * t) (lw_Z below #[Value.ref bb] s) (F0 m 536 ls []) := by
  obtain ⟨E, hX, hbl, hZ, hT, hK⟩ := hC
  obtain ⟨hx, hb, hr, hml, hts, hown, hlocks, hnm⟩ := id E
  have hA : ∀ q : Nat, s.heap.size ≤ q → lwA s q := fun _ h => h
  have hbA : ¬ lwA s bb := Nat.not_le.mpr hbl
  have hKn : va_K D gC (hpT cI cP cL) s := hK.sub [0, 1, 2] rfl
  have hKm : va_K D gC (mdT cJ cZ) s := hK.sub [3, 4] rfl
  obtain ⟨post, thr, rM, νM, hcl, hmd, h1, h2⟩ := st_word hsim (xs (4 * t + 1)) (xs (4 * t + 2))
  have hl : lv_has ls 7 [(0, .ref bb), (1, .ref (a 0)), (2, .ref (b 0)), (3, .ref ho), (4, .int (nI (4 * t)))] := hl
  refine lv_aload_n hx hb dlaw_536 rfl (lv_at hl 1 rfl) ?_
  refine lv_aload_n hx hb dlaw_537 rfl (lv_at hl 0 rfl) ?_
  refine lv_iload hx hb dlaw_538 (lv_at hl 4 rfl) ?_
  refine lv_iconst (v := 1) hx hb dlaw_540 (by decide) ?_
  refine lv_iadd hx hb dlaw_541 ?_
  refine gx_top (z := nI (4 * t + 1)) (by rw [show (1 : Int32) = nI 1 from rfl, nI_add]) ?_
  refine va_sld hx hb hX hbl hbA hS (vp_in_nI (show 4 * t + 1 < L by omega) (by omega)) dlaw_542 ?_
  refine gx_top (z := xs (4 * t + 1)) (congrArg xs (nI_clamp (by omega))) ?_
  refine lv_aload_n hx hb dlaw_543 rfl (lv_at hl 0 rfl) ?_
  refine lv_iload hx hb dlaw_544 (lv_at hl 4 rfl) ?_
  refine lv_iconst (v := 2) hx hb dlaw_546 (by decide) ?_
  refine lv_iadd hx hb dlaw_547 ?_
  refine gx_top (z := nI (4 * t + 2)) (by rw [show (2 : Int32) = nI 2 from rfl, nI_add]) ?_
  refine va_sld hx hb hX hbl hbA hS (vp_in_nI (show 4 * t + 2 < L by omega) (by omega)) dlaw_548 ?_
  refine gx_top (z := xs (4 * t + 2)) (congrArg xs (nI_clamp (by omega))) ?_
  refine lv_aload_n hx hb dlaw_549 rfl (lv_at hl 3 rfl) ?_
  refine gz_calls (wr := mdW cJ cZ b μ) (As := [.ref (a 0), .int (xs (4 * t + 1)), .int (xs (4 * t + 2)), .ref ho]) (rest := []) E (hp_word l hfl D cI cP cL a ho σ f (xs (4 * t + 1)) (xs (4 * t + 2)) post thr (hcl l hfl D cI cP a) (fun X hX => ⟨_, (h2 X hX).choose_spec.1⟩)) (gx_cwSW hts l_Lw_88 k_Lw_word kt_Lw_word z_Lw n_Lw_word ⟨by decide, by decide⟩) [0, 1, 2, 3, 4, 5, 6, 7, 8, 9] [10, 11, 12, 13, 14, 15, 16, 17, 18, 19, 20, 21, 22, 23, 24, 25, 26] rfl rfl rfl rfl (by decide) hKn hZ hT hP hD hS hA hl.1 rfl rfl (Nat.le_of_ble_eq_true rfl) ⟨by show 27 + t + 1 ≤ 601024; omega, by show 87045 + 10241 * t + 6 ≤ 7293034; omega⟩ dlaw_550 (fun k u H locs hq hP hD hS => ?_)
  obtain ⟨σ', f'⟩ := u
  have hkey := hp_key hq h1 h2 cds1u cds1z
  have hP : va_P D gC (lwW cI cP cL cJ cZ a ho b (σ', f', μ)) H := hP.sub [17, 18, 19, 20, 21, 22, 23, 24, 25, 26, 0, 1, 2, 3, 4, 5, 6, 7, 8, 9, 10, 11, 12, 13, 14, 15, 16] rfl
  have hD : va_D (lwA s) (lwW cI cP cL cJ cZ a ho b (σ', f', μ)) := hD.sub [17, 18, 19, 20, 21, 22, 23, 24, 25, 26, 0, 1, 2, 3, 4, 5, 6, 7, 8, 9, 10, 11, 12, 13, 14, 15, 16] rfl rfl
  refine W.widen (k := 28 + t) (n := 97286 + 10241 * t) (by show 27 + t + 1 ≤ 28 + t; omega) (by show 87045 + 10241 * t + 6 ≤ 97286 + 10241 * t; omega) ?_
  refine lv_istore (lv' := [(5, .int k), (0, .ref bb), (1, .ref (a 0)), (2, .ref (b 0)), (3, .ref ho), (4, .int (nI (4 * t)))]) hx hb dlaw_553 hl (by decide) rfl (fun ls hl => ?_)
  refine lv_aload_n hx hb dlaw_555 rfl (lv_at hl 3 rfl) ?_
  refine lv_aload_n hx hb dlaw_556 rfl (lv_at hl 1 rfl) ?_
  refine lv_iload hx hb dlaw_557 (lv_at hl 5 rfl) ?_
  refine lv_iconst (v := 1) hx hb dlaw_559 (by decide) ?_
  refine lv_iadd hx hb dlaw_560 ?_
  refine gx_top (z := nI (4 * t + 1)) (by rw [show (1 : Int32) = nI 1 from rfl, nI_add]) ?_
  refine va_sld hx hb hX hbl hbA hS (vp_in_nI (show 4 * t + 1 < L by omega) (by omega)) dlaw_561 ?_
  refine gx_top (z := xs (4 * t + 1)) (congrArg xs (nI_clamp (by omega))) ?_
  refine lv_aload_n hx hb dlaw_562 rfl (lv_at hl 1 rfl) ?_
  refine lv_iload hx hb dlaw_563 (lv_at hl 5 rfl) ?_
  refine lv_iconst (v := 2) hx hb dlaw_565 (by decide) ?_
  refine lv_iadd hx hb dlaw_566 ?_
  refine gx_top (z := nI (4 * t + 2)) (by rw [show (2 : Int32) = nI 2 from rfl, nI_add]) ?_
  refine va_sld hx hb hX hbl hbA hS (vp_in_nI (show 4 * t + 2 < L by omega) (by omega)) dlaw_567 ?_
  refine gx_top (z := xs (4 * t + 2)) (congrArg xs (nI_clamp (by omega))) ?_
  refine gx_calliS (C := "NurseryRowModel") (wr := nrW cI cP a σ' ++ [(ho, .inl (cL, 1, .inr (.inl f')))]) (As := [.int (xs (4 * t + 1)), .int (xs (4 * t + 2))]) (rest := []) E (hmd l D cJ cZ b) (gx_cwV hts l_Lw_90 k_Md_word ki_Md_word ke_Md_word z_Md n_Md_word ⟨by decide, by decide⟩) [10, 11, 12, 13, 14, 15, 16, 17, 18, 19, 20, 21, 22, 23, 24, 25, 26] [0, 1, 2, 3, 4, 5, 6, 7, 8, 9] rfl rfl rfl rfl (by decide) hKm hP hD hS hA (va_recv hK hP (ci := 2) (q0 := 10) rfl rfl) hl.1 rfl rfl (Nat.le_of_ble_eq_true rfl) ⟨by show 28 + t + 0 ≤ 601024; omega, by show 97286 + 10241 * t + 0 ≤ 7293034; omega⟩ dlaw_568 (fun r u H locs hq hP hD hS => ?_)
  rw [hq.2] at hP hD
  refine gx_top (z := rM) hq.1 ?_
  have hP : va_P D gC (lwW cI cP cL cJ cZ a ho b (σ', f', νM)) H := hP
  have hD : va_D (lwA s) (lwW cI cP cL cJ cZ a ho b (σ', f', νM)) := hD
  refine W.widen (k := 28 + t) (n := 97286 + 10241 * t) (by show 28 + t + 0 ≤ 28 + t; omega) (by show 97286 + 10241 * t + 0 ≤ 97286 + 10241 * t; omega) ?_
  refine lv_istore (lv' := [(6, .int rM), (5, .int k), (0, .ref bb), (1, .ref (a 0)), (2, .ref (b 0)), (3, .ref ho), (4, .int (nI (4 * t)))]) hx hb dlaw_571 hl (by decide) rfl (fun ls hl => ?_)
  refine lv_aload_n hx hb dlaw_573 rfl (lv_at hl 4 rfl) ?_
  refine gx_callpS (C := "NurseryRowModel") (As := []) (rest := []) E (qMd_thrown l D cJ cZ b νM) (gx_cwV hts l_Lw_68 k_Md_thrown ki_Md_thrown ke_Md_thrown z_Md n_Md_thrown ⟨by decide, by decide⟩) [10, 11, 12, 13, 14, 15, 16, 17, 18, 19, 20, 21, 22, 23, 24, 25, 26] rfl rfl hKm hP hD (va_recv hK hP (ci := 2) (q0 := 10) rfl rfl) hl.1 rfl rfl (Nat.le_of_ble_eq_true rfl) ⟨by show 28 + t ≤ 601024; omega, by show 97286 + 10241 * t ≤ 7293034; omega⟩ dlaw_574 ?_
  refine lv_iload hx hb dlaw_577 (lv_at hl 1 rfl) ?_
  refine lv_icmp_eq (tgt := 584) hx hb dlaw_579 (by decide) (fun c1 => ?_) (fun c1 => ?_)
  · skip
    refine lv_iload hx hb dlaw_584 (lv_at hl 1 rfl) ?_
    refine lv_if_ne (tgt := 601) hx hb dlaw_586 (by decide) (fun c2 => ?_) (fun c2 => ?_)
    · refine lv_goto (tgt := 952) hx hb dlaw_601 (by decide) ?_
      exact kk σ' f' νM H locs ls hkey.2.2 hP hD hS (lv_sub hl [2, 3, 4, 5, 6] rfl)
    · skip
      refine lv_aload_n hx hb dlaw_589 rfl (lv_at hl 5 rfl) ?_
      refine lv_iconst (v := 0) hx hb dlaw_590 (by decide) ?_
      refine va_lald hx hb hK hP 9 2 rfl rfl (by unfold vp_in; decide) dlaw_591 ?_
      refine lv_iload hx hb dlaw_592 (lv_at hl 0 rfl) ?_
      refine lv_i2l hx hb dlaw_594 rfl ?_
      refine W.lcmp hx hb dlaw_595 ?_
      have hcm : lg_cmp (f' (0 : Int32).toNatClampNeg) rM.toInt64 = 0 := by rw [show (0 : Int32).toNatClampNeg = 0 from by decide, hkey.2.1 c2]; simp [lg_cmp]
      refine lv_if_eq (tgt := 601) hx hb dlaw_596 (by decide) (fun c3 => ?_) (fun c3 => ?_)
      · refine lv_goto (tgt := 952) hx hb dlaw_601 (by decide) ?_
        exact kk σ' f' νM H locs ls hkey.2.2 hP hD hS (lv_sub hl [2, 3, 4, 5, 6] rfl)
      · exact absurd hcm c3
  · exact absurd hkey.1 c1
set_option maxHeartbeats 4000000 in
set_option maxRecDepth 100000 in
theorem lc_root (hC : lwC p s m meth c bb L xs D cI cP cL cJ cZ) (hfl : l.stackTraces = false) (ht : 4 * t + 4 ≤ L) (hL : L ≤ 2048) (hsim : Sim σ μ) (hP : va_P D gC (lwW cI cP cL cJ cZ a ho b (σ, f, μ)) H) (hD : va_D (lwA s) (lwW cI cP cL cJ cZ a ho b (σ, f, μ))) (hS : va_S (lwA s) s.heap H locs) (hl : lv_has ls 7 (lwv bb a b ho t))
    (kk : ∀ (σ : nSt) (f : Nat → Int64) (μ : mSt) (H : Heap) (locs : List Loc) (ls : Array Slot), Sim σ μ → va_P D gC (lwW cI cP cL cJ cZ a ho b (σ, f, μ)) H → va_D (lwA s) (lwW cI cP cL cJ cZ a ho b (σ, f, μ)) → va_S (lwA s) s.heap H locs → lv_has ls 7 (lwv bb a b ho t) → W p l e room_1 s m #[Value.ref bb] below meth c H locs (28 + t) (97286 + 10241 * t) (lw_Z below #[Value.ref bb] s) (F0 m 952 ls [])) :
    W p l e room_1 s m #[Value.ref bb] below meth c H locs (27 + t) (87045 + 10241 * t) (lw_Z below #[Value.ref bb] s) (F0 m 604 ls []) := by
  obtain ⟨E, hX, hbl, hZ, hT, hK⟩ := hC
  obtain ⟨hx, hb, hr, hml, hts, hown, hlocks, hnm⟩ := id E
  have hA : ∀ q : Nat, s.heap.size ≤ q → lwA s q := fun _ h => h
  have hbA : ¬ lwA s bb := Nat.not_le.mpr hbl
  have hKn : va_K D gC (hpT cI cP cL) s := hK.sub [0, 1, 2] rfl
  have hKm : va_K D gC (mdT cJ cZ) s := hK.sub [3, 4] rfl
  obtain ⟨post, thr, rM, νM, hcl, hmd, h1, h2⟩ := st_root hsim (xs (4 * t + 1)) (xs (4 * t + 2))
  have hl : lv_has ls 7 [(0, .ref bb), (1, .ref (a 0)), (2, .ref (b 0)), (3, .ref ho), (4, .int (nI (4 * t)))] := hl
  refine lv_aload_n hx hb dlaw_604 rfl (lv_at hl 1 rfl) ?_
  refine lv_aload_n hx hb dlaw_605 rfl (lv_at hl 0 rfl) ?_
  refine lv_iload hx hb dlaw_606 (lv_at hl 4 rfl) ?_
  refine lv_iconst (v := 1) hx hb dlaw_608 (by decide) ?_
  refine lv_iadd hx hb dlaw_609 ?_
  refine gx_top (z := nI (4 * t + 1)) (by rw [show (1 : Int32) = nI 1 from rfl, nI_add]) ?_
  refine va_sld hx hb hX hbl hbA hS (vp_in_nI (show 4 * t + 1 < L by omega) (by omega)) dlaw_610 ?_
  refine gx_top (z := xs (4 * t + 1)) (congrArg xs (nI_clamp (by omega))) ?_
  refine lv_aload_n hx hb dlaw_611 rfl (lv_at hl 0 rfl) ?_
  refine lv_iload hx hb dlaw_612 (lv_at hl 4 rfl) ?_
  refine lv_iconst (v := 2) hx hb dlaw_614 (by decide) ?_
  refine lv_iadd hx hb dlaw_615 ?_
  refine gx_top (z := nI (4 * t + 2)) (by rw [show (2 : Int32) = nI 2 from rfl, nI_add]) ?_
  refine va_sld hx hb hX hbl hbA hS (vp_in_nI (show 4 * t + 2 < L by omega) (by omega)) dlaw_616 ?_
  refine gx_top (z := xs (4 * t + 2)) (congrArg xs (nI_clamp (by omega))) ?_
  refine lv_aload_n hx hb dlaw_617 rfl (lv_at hl 3 rfl) ?_
  refine gz_calls (wr := mdW cJ cZ b μ) (As := [.ref (a 0), .int (xs (4 * t + 1)), .int (xs (4 * t + 2)), .ref ho]) (rest := []) E (hp_root l hfl D cI cP cL a ho σ f (xs (4 * t + 1)) (xs (4 * t + 2)) post thr (hcl l hfl D cI cP a) (fun X hX => ⟨_, (h2 X hX).choose_spec.1⟩)) (gx_cwSW hts l_Lw_91 k_Lw_root kt_Lw_root z_Lw n_Lw_root ⟨by decide, by decide⟩) [0, 1, 2, 3, 4, 5, 6, 7, 8, 9] [10, 11, 12, 13, 14, 15, 16, 17, 18, 19, 20, 21, 22, 23, 24, 25, 26] rfl rfl rfl rfl (by decide) hKn hZ hT hP hD hS hA hl.1 rfl rfl (Nat.le_of_ble_eq_true rfl) ⟨by show 27 + t + 1 ≤ 601024; omega, by show 87045 + 10241 * t + 6 ≤ 7293034; omega⟩ dlaw_618 (fun k u H locs hq hP hD hS => ?_)
  obtain ⟨σ', f'⟩ := u
  have hkey := hp_key hq h1 h2 cds1u cds1z
  have hP : va_P D gC (lwW cI cP cL cJ cZ a ho b (σ', f', μ)) H := hP.sub [17, 18, 19, 20, 21, 22, 23, 24, 25, 26, 0, 1, 2, 3, 4, 5, 6, 7, 8, 9, 10, 11, 12, 13, 14, 15, 16] rfl
  have hD : va_D (lwA s) (lwW cI cP cL cJ cZ a ho b (σ', f', μ)) := hD.sub [17, 18, 19, 20, 21, 22, 23, 24, 25, 26, 0, 1, 2, 3, 4, 5, 6, 7, 8, 9, 10, 11, 12, 13, 14, 15, 16] rfl rfl
  refine W.widen (k := 28 + t) (n := 97286 + 10241 * t) (by show 27 + t + 1 ≤ 28 + t; omega) (by show 87045 + 10241 * t + 6 ≤ 97286 + 10241 * t; omega) ?_
  refine lv_istore (lv' := [(5, .int k), (0, .ref bb), (1, .ref (a 0)), (2, .ref (b 0)), (3, .ref ho), (4, .int (nI (4 * t)))]) hx hb dlaw_621 hl (by decide) rfl (fun ls hl => ?_)
  refine lv_aload_n hx hb dlaw_623 rfl (lv_at hl 3 rfl) ?_
  refine lv_aload_n hx hb dlaw_624 rfl (lv_at hl 1 rfl) ?_
  refine lv_iload hx hb dlaw_625 (lv_at hl 5 rfl) ?_
  refine lv_iconst (v := 1) hx hb dlaw_627 (by decide) ?_
  refine lv_iadd hx hb dlaw_628 ?_
  refine gx_top (z := nI (4 * t + 1)) (by rw [show (1 : Int32) = nI 1 from rfl, nI_add]) ?_
  refine va_sld hx hb hX hbl hbA hS (vp_in_nI (show 4 * t + 1 < L by omega) (by omega)) dlaw_629 ?_
  refine gx_top (z := xs (4 * t + 1)) (congrArg xs (nI_clamp (by omega))) ?_
  refine lv_aload_n hx hb dlaw_630 rfl (lv_at hl 1 rfl) ?_
  refine lv_iload hx hb dlaw_631 (lv_at hl 5 rfl) ?_
  refine lv_iconst (v := 2) hx hb dlaw_633 (by decide) ?_
  refine lv_iadd hx hb dlaw_634 ?_
  refine gx_top (z := nI (4 * t + 2)) (by rw [show (2 : Int32) = nI 2 from rfl, nI_add]) ?_
  refine va_sld hx hb hX hbl hbA hS (vp_in_nI (show 4 * t + 2 < L by omega) (by omega)) dlaw_635 ?_
  refine gx_top (z := xs (4 * t + 2)) (congrArg xs (nI_clamp (by omega))) ?_
  refine gx_calliS (C := "NurseryRowModel") (wr := nrW cI cP a σ' ++ [(ho, .inl (cL, 1, .inr (.inl f')))]) (As := [.int (xs (4 * t + 1)), .int (xs (4 * t + 2))]) (rest := []) E (hmd l D cJ cZ b) (gx_cwV hts l_Lw_93 k_Md_root ki_Md_root ke_Md_root z_Md n_Md_root ⟨by decide, by decide⟩) [10, 11, 12, 13, 14, 15, 16, 17, 18, 19, 20, 21, 22, 23, 24, 25, 26] [0, 1, 2, 3, 4, 5, 6, 7, 8, 9] rfl rfl rfl rfl (by decide) hKm hP hD hS hA (va_recv hK hP (ci := 2) (q0 := 10) rfl rfl) hl.1 rfl rfl (Nat.le_of_ble_eq_true rfl) ⟨by show 28 + t + 0 ≤ 601024; omega, by show 97286 + 10241 * t + 0 ≤ 7293034; omega⟩ dlaw_636 (fun r u H locs hq hP hD hS => ?_)
  rw [hq.2] at hP hD
  refine gx_top (z := rM) hq.1 ?_
  have hP : va_P D gC (lwW cI cP cL cJ cZ a ho b (σ', f', νM)) H := hP
  have hD : va_D (lwA s) (lwW cI cP cL cJ cZ a ho b (σ', f', νM)) := hD
  refine W.widen (k := 28 + t) (n := 97286 + 10241 * t) (by show 28 + t + 0 ≤ 28 + t; omega) (by show 97286 + 10241 * t + 0 ≤ 97286 + 10241 * t; omega) ?_
  refine lv_istore (lv' := [(6, .int rM), (5, .int k), (0, .ref bb), (1, .ref (a 0)), (2, .ref (b 0)), (3, .ref ho), (4, .int (nI (4 * t)))]) hx hb dlaw_639 hl (by decide) rfl (fun ls hl => ?_)
  refine lv_aload_n hx hb dlaw_641 rfl (lv_at hl 4 rfl) ?_
  refine gx_callpS (C := "NurseryRowModel") (As := []) (rest := []) E (qMd_thrown l D cJ cZ b νM) (gx_cwV hts l_Lw_68 k_Md_thrown ki_Md_thrown ke_Md_thrown z_Md n_Md_thrown ⟨by decide, by decide⟩) [10, 11, 12, 13, 14, 15, 16, 17, 18, 19, 20, 21, 22, 23, 24, 25, 26] rfl rfl hKm hP hD (va_recv hK hP (ci := 2) (q0 := 10) rfl rfl) hl.1 rfl rfl (Nat.le_of_ble_eq_true rfl) ⟨by show 28 + t ≤ 601024; omega, by show 97286 + 10241 * t ≤ 7293034; omega⟩ dlaw_642 ?_
  refine lv_iload hx hb dlaw_645 (lv_at hl 1 rfl) ?_
  refine lv_icmp_eq (tgt := 652) hx hb dlaw_647 (by decide) (fun c1 => ?_) (fun c1 => ?_)
  · skip
    refine lv_iload hx hb dlaw_652 (lv_at hl 1 rfl) ?_
    refine lv_if_ne (tgt := 669) hx hb dlaw_654 (by decide) (fun c2 => ?_) (fun c2 => ?_)
    · refine lv_goto (tgt := 952) hx hb dlaw_669 (by decide) ?_
      exact kk σ' f' νM H locs ls hkey.2.2 hP hD hS (lv_sub hl [2, 3, 4, 5, 6] rfl)
    · skip
      refine lv_aload_n hx hb dlaw_657 rfl (lv_at hl 5 rfl) ?_
      refine lv_iconst (v := 0) hx hb dlaw_658 (by decide) ?_
      refine va_lald hx hb hK hP 9 2 rfl rfl (by unfold vp_in; decide) dlaw_659 ?_
      refine lv_iload hx hb dlaw_660 (lv_at hl 0 rfl) ?_
      refine lv_i2l hx hb dlaw_662 rfl ?_
      refine W.lcmp hx hb dlaw_663 ?_
      have hcm : lg_cmp (f' (0 : Int32).toNatClampNeg) rM.toInt64 = 0 := by rw [show (0 : Int32).toNatClampNeg = 0 from by decide, hkey.2.1 c2]; simp [lg_cmp]
      refine lv_if_eq (tgt := 669) hx hb dlaw_664 (by decide) (fun c3 => ?_) (fun c3 => ?_)
      · refine lv_goto (tgt := 952) hx hb dlaw_669 (by decide) ?_
        exact kk σ' f' νM H locs ls hkey.2.2 hP hD hS (lv_sub hl [2, 3, 4, 5, 6] rfl)
      · exact absurd hcm c3
  · exact absurd hkey.1 c1
set_option maxHeartbeats 4000000 in
set_option maxRecDepth 100000 in
theorem lc_rooted (hC : lwC p s m meth c bb L xs D cI cP cL cJ cZ) (hfl : l.stackTraces = false) (ht : 4 * t + 4 ≤ L) (hL : L ≤ 2048) (hsim : Sim σ μ) (hP : va_P D gC (lwW cI cP cL cJ cZ a ho b (σ, f, μ)) H) (hD : va_D (lwA s) (lwW cI cP cL cJ cZ a ho b (σ, f, μ))) (hS : va_S (lwA s) s.heap H locs) (hl : lv_has ls 7 (lwv bb a b ho t))
    (kk : ∀ (σ : nSt) (f : Nat → Int64) (μ : mSt) (H : Heap) (locs : List Loc) (ls : Array Slot), Sim σ μ → va_P D gC (lwW cI cP cL cJ cZ a ho b (σ, f, μ)) H → va_D (lwA s) (lwW cI cP cL cJ cZ a ho b (σ, f, μ)) → va_S (lwA s) s.heap H locs → lv_has ls 7 (lwv bb a b ho t) → W p l e room_1 s m #[Value.ref bb] below meth c H locs (28 + t) (97286 + 10241 * t) (lw_Z below #[Value.ref bb] s) (F0 m 952 ls [])) :
    W p l e room_1 s m #[Value.ref bb] below meth c H locs (27 + t) (87045 + 10241 * t) (lw_Z below #[Value.ref bb] s) (F0 m 672 ls []) := by
  obtain ⟨E, hX, hbl, hZ, hT, hK⟩ := hC
  obtain ⟨hx, hb, hr, hml, hts, hown, hlocks, hnm⟩ := id E
  have hA : ∀ q : Nat, s.heap.size ≤ q → lwA s q := fun _ h => h
  have hbA : ¬ lwA s bb := Nat.not_le.mpr hbl
  have hKn : va_K D gC (hpT cI cP cL) s := hK.sub [0, 1, 2] rfl
  have hKm : va_K D gC (mdT cJ cZ) s := hK.sub [3, 4] rfl
  obtain ⟨post, thr, rM, νM, hcl, hmd, h1, h2⟩ := st_rooted hsim (xs (4 * t + 1))
  have hl : lv_has ls 7 [(0, .ref bb), (1, .ref (a 0)), (2, .ref (b 0)), (3, .ref ho), (4, .int (nI (4 * t)))] := hl
  refine lv_aload_n hx hb dlaw_672 rfl (lv_at hl 1 rfl) ?_
  refine lv_aload_n hx hb dlaw_673 rfl (lv_at hl 0 rfl) ?_
  refine lv_iload hx hb dlaw_674 (lv_at hl 4 rfl) ?_
  refine lv_iconst (v := 1) hx hb dlaw_676 (by decide) ?_
  refine lv_iadd hx hb dlaw_677 ?_
  refine gx_top (z := nI (4 * t + 1)) (by rw [show (1 : Int32) = nI 1 from rfl, nI_add]) ?_
  refine va_sld hx hb hX hbl hbA hS (vp_in_nI (show 4 * t + 1 < L by omega) (by omega)) dlaw_678 ?_
  refine gx_top (z := xs (4 * t + 1)) (congrArg xs (nI_clamp (by omega))) ?_
  refine lv_aload_n hx hb dlaw_679 rfl (lv_at hl 3 rfl) ?_
  refine gz_calls (wr := mdW cJ cZ b μ) (As := [.ref (a 0), .int (xs (4 * t + 1)), .ref ho]) (rest := []) E (hp_rooted l hfl D cI cP cL a ho σ f (xs (4 * t + 1)) post thr (hcl l hfl D cI cP a) (fun X hX => ⟨_, (h2 X hX).choose_spec.1⟩)) (gx_cwSW hts l_Lw_94 k_Lw_rooted kt_Lw_rooted z_Lw n_Lw_rooted ⟨by decide, by decide⟩) [0, 1, 2, 3, 4, 5, 6, 7, 8, 9] [10, 11, 12, 13, 14, 15, 16, 17, 18, 19, 20, 21, 22, 23, 24, 25, 26] rfl rfl rfl rfl (by decide) hKn hZ hT hP hD hS hA hl.1 rfl rfl (Nat.le_of_ble_eq_true rfl) ⟨by show 27 + t + 1 ≤ 601024; omega, by show 87045 + 10241 * t + 6 ≤ 7293034; omega⟩ dlaw_680 (fun k u H locs hq hP hD hS => ?_)
  obtain ⟨σ', f'⟩ := u
  have hkey := hp_key hq h1 h2 cds1u cds1z
  have hP : va_P D gC (lwW cI cP cL cJ cZ a ho b (σ', f', μ)) H := hP.sub [17, 18, 19, 20, 21, 22, 23, 24, 25, 26, 0, 1, 2, 3, 4, 5, 6, 7, 8, 9, 10, 11, 12, 13, 14, 15, 16] rfl
  have hD : va_D (lwA s) (lwW cI cP cL cJ cZ a ho b (σ', f', μ)) := hD.sub [17, 18, 19, 20, 21, 22, 23, 24, 25, 26, 0, 1, 2, 3, 4, 5, 6, 7, 8, 9, 10, 11, 12, 13, 14, 15, 16] rfl rfl
  refine W.widen (k := 28 + t) (n := 97286 + 10241 * t) (by show 27 + t + 1 ≤ 28 + t; omega) (by show 87045 + 10241 * t + 6 ≤ 97286 + 10241 * t; omega) ?_
  refine lv_istore (lv' := [(5, .int k), (0, .ref bb), (1, .ref (a 0)), (2, .ref (b 0)), (3, .ref ho), (4, .int (nI (4 * t)))]) hx hb dlaw_683 hl (by decide) rfl (fun ls hl => ?_)
  refine lv_aload_n hx hb dlaw_685 rfl (lv_at hl 3 rfl) ?_
  refine lv_aload_n hx hb dlaw_686 rfl (lv_at hl 1 rfl) ?_
  refine lv_iload hx hb dlaw_687 (lv_at hl 5 rfl) ?_
  refine lv_iconst (v := 1) hx hb dlaw_689 (by decide) ?_
  refine lv_iadd hx hb dlaw_690 ?_
  refine gx_top (z := nI (4 * t + 1)) (by rw [show (1 : Int32) = nI 1 from rfl, nI_add]) ?_
  refine va_sld hx hb hX hbl hbA hS (vp_in_nI (show 4 * t + 1 < L by omega) (by omega)) dlaw_691 ?_
  refine gx_top (z := xs (4 * t + 1)) (congrArg xs (nI_clamp (by omega))) ?_
  refine gx_calliS (C := "NurseryRowModel") (wr := nrW cI cP a σ' ++ [(ho, .inl (cL, 1, .inr (.inl f')))]) (As := [.int (xs (4 * t + 1))]) (rest := []) E (hmd l D cJ cZ b) (gx_cwV hts l_Lw_96 k_Md_rooted ki_Md_rooted ke_Md_rooted z_Md n_Md_rooted ⟨by decide, by decide⟩) [10, 11, 12, 13, 14, 15, 16, 17, 18, 19, 20, 21, 22, 23, 24, 25, 26] [0, 1, 2, 3, 4, 5, 6, 7, 8, 9] rfl rfl rfl rfl (by decide) hKm hP hD hS hA (va_recv hK hP (ci := 2) (q0 := 10) rfl rfl) hl.1 rfl rfl (Nat.le_of_ble_eq_true rfl) ⟨by show 28 + t + 0 ≤ 601024; omega, by show 97286 + 10241 * t + 0 ≤ 7293034; omega⟩ dlaw_692 (fun r u H locs hq hP hD hS => ?_)
  rw [hq.2] at hP hD
  refine gx_top (z := rM) hq.1 ?_
  have hP : va_P D gC (lwW cI cP cL cJ cZ a ho b (σ', f', νM)) H := hP
  have hD : va_D (lwA s) (lwW cI cP cL cJ cZ a ho b (σ', f', νM)) := hD
  refine W.widen (k := 28 + t) (n := 97286 + 10241 * t) (by show 28 + t + 0 ≤ 28 + t; omega) (by show 97286 + 10241 * t + 0 ≤ 97286 + 10241 * t; omega) ?_
  refine lv_istore (lv' := [(6, .int rM), (5, .int k), (0, .ref bb), (1, .ref (a 0)), (2, .ref (b 0)), (3, .ref ho), (4, .int (nI (4 * t)))]) hx hb dlaw_695 hl (by decide) rfl (fun ls hl => ?_)
  refine lv_aload_n hx hb dlaw_697 rfl (lv_at hl 4 rfl) ?_
  refine gx_callpS (C := "NurseryRowModel") (As := []) (rest := []) E (qMd_thrown l D cJ cZ b νM) (gx_cwV hts l_Lw_68 k_Md_thrown ki_Md_thrown ke_Md_thrown z_Md n_Md_thrown ⟨by decide, by decide⟩) [10, 11, 12, 13, 14, 15, 16, 17, 18, 19, 20, 21, 22, 23, 24, 25, 26] rfl rfl hKm hP hD (va_recv hK hP (ci := 2) (q0 := 10) rfl rfl) hl.1 rfl rfl (Nat.le_of_ble_eq_true rfl) ⟨by show 28 + t ≤ 601024; omega, by show 97286 + 10241 * t ≤ 7293034; omega⟩ dlaw_698 ?_
  refine lv_iload hx hb dlaw_701 (lv_at hl 1 rfl) ?_
  refine lv_icmp_eq (tgt := 708) hx hb dlaw_703 (by decide) (fun c1 => ?_) (fun c1 => ?_)
  · skip
    refine lv_iload hx hb dlaw_708 (lv_at hl 1 rfl) ?_
    refine lv_if_ne (tgt := 725) hx hb dlaw_710 (by decide) (fun c2 => ?_) (fun c2 => ?_)
    · refine lv_goto (tgt := 952) hx hb dlaw_725 (by decide) ?_
      exact kk σ' f' νM H locs ls hkey.2.2 hP hD hS (lv_sub hl [2, 3, 4, 5, 6] rfl)
    · skip
      refine lv_aload_n hx hb dlaw_713 rfl (lv_at hl 5 rfl) ?_
      refine lv_iconst (v := 0) hx hb dlaw_714 (by decide) ?_
      refine va_lald hx hb hK hP 9 2 rfl rfl (by unfold vp_in; decide) dlaw_715 ?_
      refine lv_iload hx hb dlaw_716 (lv_at hl 0 rfl) ?_
      refine lv_i2l hx hb dlaw_718 rfl ?_
      refine W.lcmp hx hb dlaw_719 ?_
      have hcm : lg_cmp (f' (0 : Int32).toNatClampNeg) rM.toInt64 = 0 := by rw [show (0 : Int32).toNatClampNeg = 0 from by decide, hkey.2.1 c2]; simp [lg_cmp]
      refine lv_if_eq (tgt := 725) hx hb dlaw_720 (by decide) (fun c3 => ?_) (fun c3 => ?_)
      · refine lv_goto (tgt := 952) hx hb dlaw_725 (by decide) ?_
        exact kk σ' f' νM H locs ls hkey.2.2 hP hD hS (lv_sub hl [2, 3, 4, 5, 6] rfl)
      · exact absurd hcm c3
  · exact absurd hkey.1 c1
set_option maxHeartbeats 4000000 in
set_option maxRecDepth 100000 in
theorem lc_collect (hC : lwC p s m meth c bb L xs D cI cP cL cJ cZ) (hfl : l.stackTraces = false) (ht : 4 * t + 4 ≤ L) (hL : L ≤ 2048) (hsim : Sim σ μ) (hP : va_P D gC (lwW cI cP cL cJ cZ a ho b (σ, f, μ)) H) (hD : va_D (lwA s) (lwW cI cP cL cJ cZ a ho b (σ, f, μ))) (hS : va_S (lwA s) s.heap H locs) (hl : lv_has ls 7 (lwv bb a b ho t))
    (kk : ∀ (σ : nSt) (f : Nat → Int64) (μ : mSt) (H : Heap) (locs : List Loc) (ls : Array Slot), Sim σ μ → va_P D gC (lwW cI cP cL cJ cZ a ho b (σ, f, μ)) H → va_D (lwA s) (lwW cI cP cL cJ cZ a ho b (σ, f, μ)) → va_S (lwA s) s.heap H locs → lv_has ls 7 (lwv bb a b ho t) → W p l e room_1 s m #[Value.ref bb] below meth c H locs (28 + t) (97286 + 10241 * t) (lw_Z below #[Value.ref bb] s) (F0 m 952 ls [])) :
    W p l e room_1 s m #[Value.ref bb] below meth c H locs (27 + t) (87045 + 10241 * t) (lw_Z below #[Value.ref bb] s) (F0 m 728 ls []) := by
  obtain ⟨E, hX, hbl, hZ, hT, hK⟩ := hC
  obtain ⟨hx, hb, hr, hml, hts, hown, hlocks, hnm⟩ := id E
  have hA : ∀ q : Nat, s.heap.size ≤ q → lwA s q := fun _ h => h
  have hbA : ¬ lwA s bb := Nat.not_le.mpr hbl
  have hKn : va_K D gC (hpT cI cP cL) s := hK.sub [0, 1, 2] rfl
  have hKm : va_K D gC (mdT cJ cZ) s := hK.sub [3, 4] rfl
  obtain ⟨post, thr, rM, νM, hcl, hmd, h1, h2⟩ := st_collect hsim
  have hl : lv_has ls 7 [(0, .ref bb), (1, .ref (a 0)), (2, .ref (b 0)), (3, .ref ho), (4, .int (nI (4 * t)))] := hl
  refine lv_aload_n hx hb dlaw_728 rfl (lv_at hl 1 rfl) ?_
  refine lv_aload_n hx hb dlaw_729 rfl (lv_at hl 3 rfl) ?_
  refine gz_calls (wr := mdW cJ cZ b μ) (As := [.ref (a 0), .ref ho]) (rest := []) E (hp_collect l hfl D cI cP cL a ho σ f post thr (hcl l hfl D cI cP a) (fun X hX => ⟨_, (h2 X hX).choose_spec.1⟩)) (gx_cwSW hts l_Lw_97 k_Lw_collect kt_Lw_collect z_Lw n_Lw_collect ⟨by decide, by decide⟩) [0, 1, 2, 3, 4, 5, 6, 7, 8, 9] [10, 11, 12, 13, 14, 15, 16, 17, 18, 19, 20, 21, 22, 23, 24, 25, 26] rfl rfl rfl rfl (by decide) hKn hZ hT hP hD hS hA hl.1 rfl rfl (Nat.le_of_ble_eq_true rfl) ⟨by show 27 + t + 1 ≤ 601024; omega, by show 87045 + 10241 * t + 6 ≤ 7293034; omega⟩ dlaw_730 (fun k u H locs hq hP hD hS => ?_)
  obtain ⟨σ', f'⟩ := u
  have hkey := hp_key hq h1 h2 cds1u cds1z
  have hP : va_P D gC (lwW cI cP cL cJ cZ a ho b (σ', f', μ)) H := hP.sub [17, 18, 19, 20, 21, 22, 23, 24, 25, 26, 0, 1, 2, 3, 4, 5, 6, 7, 8, 9, 10, 11, 12, 13, 14, 15, 16] rfl
  have hD : va_D (lwA s) (lwW cI cP cL cJ cZ a ho b (σ', f', μ)) := hD.sub [17, 18, 19, 20, 21, 22, 23, 24, 25, 26, 0, 1, 2, 3, 4, 5, 6, 7, 8, 9, 10, 11, 12, 13, 14, 15, 16] rfl rfl
  refine W.widen (k := 28 + t) (n := 97286 + 10241 * t) (by show 27 + t + 1 ≤ 28 + t; omega) (by show 87045 + 10241 * t + 6 ≤ 97286 + 10241 * t; omega) ?_
  refine lv_istore (lv' := [(5, .int k), (0, .ref bb), (1, .ref (a 0)), (2, .ref (b 0)), (3, .ref ho), (4, .int (nI (4 * t)))]) hx hb dlaw_733 hl (by decide) rfl (fun ls hl => ?_)
  refine lv_aload_n hx hb dlaw_735 rfl (lv_at hl 3 rfl) ?_
  refine gx_calliS (C := "NurseryRowModel") (wr := nrW cI cP a σ' ++ [(ho, .inl (cL, 1, .inr (.inl f')))]) (As := []) (rest := []) E (hmd l D cJ cZ b) (gx_cwV hts l_Lw_100 k_Md_collect ki_Md_collect ke_Md_collect z_Md n_Md_collect ⟨by decide, by decide⟩) [10, 11, 12, 13, 14, 15, 16, 17, 18, 19, 20, 21, 22, 23, 24, 25, 26] [0, 1, 2, 3, 4, 5, 6, 7, 8, 9] rfl rfl rfl rfl (by decide) hKm hP hD hS hA (va_recv hK hP (ci := 2) (q0 := 10) rfl rfl) hl.1 rfl rfl (Nat.le_of_ble_eq_true rfl) ⟨by show 28 + t + 0 ≤ 601024; omega, by show 97286 + 10241 * t + 0 ≤ 7293034; omega⟩ dlaw_736 (fun r u H locs hq hP hD hS => ?_)
  rw [hq.2] at hP hD
  refine gx_top (z := rM) hq.1 ?_
  have hP : va_P D gC (lwW cI cP cL cJ cZ a ho b (σ', f', νM)) H := hP
  have hD : va_D (lwA s) (lwW cI cP cL cJ cZ a ho b (σ', f', νM)) := hD
  refine W.widen (k := 28 + t) (n := 97286 + 10241 * t) (by show 28 + t + 0 ≤ 28 + t; omega) (by show 97286 + 10241 * t + 0 ≤ 97286 + 10241 * t; omega) ?_
  refine lv_istore (lv' := [(6, .int rM), (5, .int k), (0, .ref bb), (1, .ref (a 0)), (2, .ref (b 0)), (3, .ref ho), (4, .int (nI (4 * t)))]) hx hb dlaw_739 hl (by decide) rfl (fun ls hl => ?_)
  refine lv_aload_n hx hb dlaw_741 rfl (lv_at hl 4 rfl) ?_
  refine gx_callpS (C := "NurseryRowModel") (As := []) (rest := []) E (qMd_thrown l D cJ cZ b νM) (gx_cwV hts l_Lw_68 k_Md_thrown ki_Md_thrown ke_Md_thrown z_Md n_Md_thrown ⟨by decide, by decide⟩) [10, 11, 12, 13, 14, 15, 16, 17, 18, 19, 20, 21, 22, 23, 24, 25, 26] rfl rfl hKm hP hD (va_recv hK hP (ci := 2) (q0 := 10) rfl rfl) hl.1 rfl rfl (Nat.le_of_ble_eq_true rfl) ⟨by show 28 + t ≤ 601024; omega, by show 97286 + 10241 * t ≤ 7293034; omega⟩ dlaw_742 ?_
  refine lv_iload hx hb dlaw_745 (lv_at hl 1 rfl) ?_
  refine lv_icmp_eq (tgt := 752) hx hb dlaw_747 (by decide) (fun c1 => ?_) (fun c1 => ?_)
  · skip
    refine lv_iload hx hb dlaw_752 (lv_at hl 1 rfl) ?_
    refine lv_if_ne (tgt := 769) hx hb dlaw_754 (by decide) (fun c2 => ?_) (fun c2 => ?_)
    · refine lv_goto (tgt := 952) hx hb dlaw_769 (by decide) ?_
      exact kk σ' f' νM H locs ls hkey.2.2 hP hD hS (lv_sub hl [2, 3, 4, 5, 6] rfl)
    · skip
      refine lv_aload_n hx hb dlaw_757 rfl (lv_at hl 5 rfl) ?_
      refine lv_iconst (v := 0) hx hb dlaw_758 (by decide) ?_
      refine va_lald hx hb hK hP 9 2 rfl rfl (by unfold vp_in; decide) dlaw_759 ?_
      refine lv_iload hx hb dlaw_760 (lv_at hl 0 rfl) ?_
      refine lv_i2l hx hb dlaw_762 rfl ?_
      refine W.lcmp hx hb dlaw_763 ?_
      have hcm : lg_cmp (f' (0 : Int32).toNatClampNeg) rM.toInt64 = 0 := by rw [show (0 : Int32).toNatClampNeg = 0 from by decide, hkey.2.1 c2]; simp [lg_cmp]
      refine lv_if_eq (tgt := 769) hx hb dlaw_764 (by decide) (fun c3 => ?_) (fun c3 => ?_)
      · refine lv_goto (tgt := 952) hx hb dlaw_769 (by decide) ?_
        exact kk σ' f' νM H locs ls hkey.2.2 hP hD hS (lv_sub hl [2, 3, 4, 5, 6] rfl)
      · exact absurd hcm c3
  · exact absurd hkey.1 c1
set_option maxHeartbeats 4000000 in
set_option maxRecDepth 100000 in
theorem lc_about (hC : lwC p s m meth c bb L xs D cI cP cL cJ cZ) (hfl : l.stackTraces = false) (ht : 4 * t + 4 ≤ L) (hL : L ≤ 2048) (hsim : Sim σ μ) (hP : va_P D gC (lwW cI cP cL cJ cZ a ho b (σ, f, μ)) H) (hD : va_D (lwA s) (lwW cI cP cL cJ cZ a ho b (σ, f, μ))) (hS : va_S (lwA s) s.heap H locs) (hl : lv_has ls 7 (lwv bb a b ho t))
    (kk : ∀ (σ : nSt) (f : Nat → Int64) (μ : mSt) (H : Heap) (locs : List Loc) (ls : Array Slot), Sim σ μ → va_P D gC (lwW cI cP cL cJ cZ a ho b (σ, f, μ)) H → va_D (lwA s) (lwW cI cP cL cJ cZ a ho b (σ, f, μ)) → va_S (lwA s) s.heap H locs → lv_has ls 7 (lwv bb a b ho t) → W p l e room_1 s m #[Value.ref bb] below meth c H locs (28 + t) (97286 + 10241 * t) (lw_Z below #[Value.ref bb] s) (F0 m 952 ls [])) :
    W p l e room_1 s m #[Value.ref bb] below meth c H locs (27 + t) (87045 + 10241 * t) (lw_Z below #[Value.ref bb] s) (F0 m 772 ls []) := by
  obtain ⟨E, hX, hbl, hZ, hT, hK⟩ := hC
  obtain ⟨hx, hb, hr, hml, hts, hown, hlocks, hnm⟩ := id E
  have hA : ∀ q : Nat, s.heap.size ≤ q → lwA s q := fun _ h => h
  have hbA : ¬ lwA s bb := Nat.not_le.mpr hbl
  have hKn : va_K D gC (hpT cI cP cL) s := hK.sub [0, 1, 2] rfl
  have hKm : va_K D gC (mdT cJ cZ) s := hK.sub [3, 4] rfl
  obtain ⟨post, thr, rM, νM, hcl, hmd, h1, h2⟩ := st_about hsim (xs (4 * t + 1)) (xs (4 * t + 2))
  have hl : lv_has ls 7 [(0, .ref bb), (1, .ref (a 0)), (2, .ref (b 0)), (3, .ref ho), (4, .int (nI (4 * t)))] := hl
  refine lv_aload_n hx hb dlaw_772 rfl (lv_at hl 1 rfl) ?_
  refine lv_aload_n hx hb dlaw_773 rfl (lv_at hl 0 rfl) ?_
  refine lv_iload hx hb dlaw_774 (lv_at hl 4 rfl) ?_
  refine lv_iconst (v := 1) hx hb dlaw_776 (by decide) ?_
  refine lv_iadd hx hb dlaw_777 ?_
  refine gx_top (z := nI (4 * t + 1)) (by rw [show (1 : Int32) = nI 1 from rfl, nI_add]) ?_
  refine va_sld hx hb hX hbl hbA hS (vp_in_nI (show 4 * t + 1 < L by omega) (by omega)) dlaw_778 ?_
  refine gx_top (z := xs (4 * t + 1)) (congrArg xs (nI_clamp (by omega))) ?_
  refine lv_aload_n hx hb dlaw_779 rfl (lv_at hl 0 rfl) ?_
  refine lv_iload hx hb dlaw_780 (lv_at hl 4 rfl) ?_
  refine lv_iconst (v := 2) hx hb dlaw_782 (by decide) ?_
  refine lv_iadd hx hb dlaw_783 ?_
  refine gx_top (z := nI (4 * t + 2)) (by rw [show (2 : Int32) = nI 2 from rfl, nI_add]) ?_
  refine va_sld hx hb hX hbl hbA hS (vp_in_nI (show 4 * t + 2 < L by omega) (by omega)) dlaw_784 ?_
  refine gx_top (z := xs (4 * t + 2)) (congrArg xs (nI_clamp (by omega))) ?_
  refine lv_aload_n hx hb dlaw_785 rfl (lv_at hl 3 rfl) ?_
  refine gz_calls (wr := mdW cJ cZ b μ) (As := [.ref (a 0), .int (xs (4 * t + 1)), .int (xs (4 * t + 2)), .ref ho]) (rest := []) E (hp_about l hfl D cI cP cL a ho σ f (xs (4 * t + 1)) (xs (4 * t + 2)) post thr (hcl l hfl D cI cP a) (fun X hX => ⟨_, (h2 X hX).choose_spec.1⟩)) (gx_cwSW hts l_Lw_101 k_Lw_about kt_Lw_about z_Lw n_Lw_about ⟨by decide, by decide⟩) [0, 1, 2, 3, 4, 5, 6, 7, 8, 9] [10, 11, 12, 13, 14, 15, 16, 17, 18, 19, 20, 21, 22, 23, 24, 25, 26] rfl rfl rfl rfl (by decide) hKn hZ hT hP hD hS hA hl.1 rfl rfl (Nat.le_of_ble_eq_true rfl) ⟨by show 27 + t + 1 ≤ 601024; omega, by show 87045 + 10241 * t + 6 ≤ 7293034; omega⟩ dlaw_786 (fun k u H locs hq hP hD hS => ?_)
  obtain ⟨σ', f'⟩ := u
  have hkey := hp_key hq h1 h2 cds2u cds2z
  have hP : va_P D gC (lwW cI cP cL cJ cZ a ho b (σ', f', μ)) H := hP.sub [17, 18, 19, 20, 21, 22, 23, 24, 25, 26, 0, 1, 2, 3, 4, 5, 6, 7, 8, 9, 10, 11, 12, 13, 14, 15, 16] rfl
  have hD : va_D (lwA s) (lwW cI cP cL cJ cZ a ho b (σ', f', μ)) := hD.sub [17, 18, 19, 20, 21, 22, 23, 24, 25, 26, 0, 1, 2, 3, 4, 5, 6, 7, 8, 9, 10, 11, 12, 13, 14, 15, 16] rfl rfl
  refine W.widen (k := 28 + t) (n := 97286 + 10241 * t) (by show 27 + t + 1 ≤ 28 + t; omega) (by show 87045 + 10241 * t + 6 ≤ 97286 + 10241 * t; omega) ?_
  refine lv_istore (lv' := [(5, .int k), (0, .ref bb), (1, .ref (a 0)), (2, .ref (b 0)), (3, .ref ho), (4, .int (nI (4 * t)))]) hx hb dlaw_789 hl (by decide) rfl (fun ls hl => ?_)
  refine lv_aload_n hx hb dlaw_791 rfl (lv_at hl 3 rfl) ?_
  refine lv_aload_n hx hb dlaw_792 rfl (lv_at hl 1 rfl) ?_
  refine lv_iload hx hb dlaw_793 (lv_at hl 5 rfl) ?_
  refine lv_iconst (v := 1) hx hb dlaw_795 (by decide) ?_
  refine lv_iadd hx hb dlaw_796 ?_
  refine gx_top (z := nI (4 * t + 1)) (by rw [show (1 : Int32) = nI 1 from rfl, nI_add]) ?_
  refine va_sld hx hb hX hbl hbA hS (vp_in_nI (show 4 * t + 1 < L by omega) (by omega)) dlaw_797 ?_
  refine gx_top (z := xs (4 * t + 1)) (congrArg xs (nI_clamp (by omega))) ?_
  refine lv_aload_n hx hb dlaw_798 rfl (lv_at hl 1 rfl) ?_
  refine lv_iload hx hb dlaw_799 (lv_at hl 5 rfl) ?_
  refine lv_iconst (v := 2) hx hb dlaw_801 (by decide) ?_
  refine lv_iadd hx hb dlaw_802 ?_
  refine gx_top (z := nI (4 * t + 2)) (by rw [show (2 : Int32) = nI 2 from rfl, nI_add]) ?_
  refine va_sld hx hb hX hbl hbA hS (vp_in_nI (show 4 * t + 2 < L by omega) (by omega)) dlaw_803 ?_
  refine gx_top (z := xs (4 * t + 2)) (congrArg xs (nI_clamp (by omega))) ?_
  refine gx_calliS (C := "NurseryRowModel") (wr := nrW cI cP a σ' ++ [(ho, .inl (cL, 1, .inr (.inl f')))]) (As := [.int (xs (4 * t + 1)), .int (xs (4 * t + 2))]) (rest := []) E (hmd l D cJ cZ b) (gx_cwV hts l_Lw_103 k_Md_about ki_Md_about ke_Md_about z_Md n_Md_about ⟨by decide, by decide⟩) [10, 11, 12, 13, 14, 15, 16, 17, 18, 19, 20, 21, 22, 23, 24, 25, 26] [0, 1, 2, 3, 4, 5, 6, 7, 8, 9] rfl rfl rfl rfl (by decide) hKm hP hD hS hA (va_recv hK hP (ci := 2) (q0 := 10) rfl rfl) hl.1 rfl rfl (Nat.le_of_ble_eq_true rfl) ⟨by show 28 + t + 0 ≤ 601024; omega, by show 97286 + 10241 * t + 0 ≤ 7293034; omega⟩ dlaw_804 (fun r u H locs hq hP hD hS => ?_)
  rw [hq.2] at hP hD
  refine gx_top (z := rM) hq.1 ?_
  have hP : va_P D gC (lwW cI cP cL cJ cZ a ho b (σ', f', νM)) H := hP
  have hD : va_D (lwA s) (lwW cI cP cL cJ cZ a ho b (σ', f', νM)) := hD
  refine W.widen (k := 28 + t) (n := 97286 + 10241 * t) (by show 28 + t + 0 ≤ 28 + t; omega) (by show 97286 + 10241 * t + 0 ≤ 97286 + 10241 * t; omega) ?_
  refine lv_istore (lv' := [(6, .int rM), (5, .int k), (0, .ref bb), (1, .ref (a 0)), (2, .ref (b 0)), (3, .ref ho), (4, .int (nI (4 * t)))]) hx hb dlaw_807 hl (by decide) rfl (fun ls hl => ?_)
  refine lv_aload_n hx hb dlaw_809 rfl (lv_at hl 4 rfl) ?_
  refine gx_callpS (C := "NurseryRowModel") (As := []) (rest := []) E (qMd_thrown l D cJ cZ b νM) (gx_cwV hts l_Lw_68 k_Md_thrown ki_Md_thrown ke_Md_thrown z_Md n_Md_thrown ⟨by decide, by decide⟩) [10, 11, 12, 13, 14, 15, 16, 17, 18, 19, 20, 21, 22, 23, 24, 25, 26] rfl rfl hKm hP hD (va_recv hK hP (ci := 2) (q0 := 10) rfl rfl) hl.1 rfl rfl (Nat.le_of_ble_eq_true rfl) ⟨by show 28 + t ≤ 601024; omega, by show 97286 + 10241 * t ≤ 7293034; omega⟩ dlaw_810 ?_
  refine lv_iload hx hb dlaw_813 (lv_at hl 1 rfl) ?_
  refine lv_icmp_eq (tgt := 820) hx hb dlaw_815 (by decide) (fun c1 => ?_) (fun c1 => ?_)
  · skip
    refine lv_iload hx hb dlaw_820 (lv_at hl 1 rfl) ?_
    refine lv_if_ne (tgt := 837) hx hb dlaw_822 (by decide) (fun c2 => ?_) (fun c2 => ?_)
    · refine lv_goto (tgt := 952) hx hb dlaw_837 (by decide) ?_
      exact kk σ' f' νM H locs ls hkey.2.2 hP hD hS (lv_sub hl [2, 3, 4, 5, 6] rfl)
    · skip
      refine lv_aload_n hx hb dlaw_825 rfl (lv_at hl 5 rfl) ?_
      refine lv_iconst (v := 0) hx hb dlaw_826 (by decide) ?_
      refine va_lald hx hb hK hP 9 2 rfl rfl (by unfold vp_in; decide) dlaw_827 ?_
      refine lv_iload hx hb dlaw_828 (lv_at hl 0 rfl) ?_
      refine lv_i2l hx hb dlaw_830 rfl ?_
      refine W.lcmp hx hb dlaw_831 ?_
      have hcm : lg_cmp (f' (0 : Int32).toNatClampNeg) rM.toInt64 = 0 := by rw [show (0 : Int32).toNatClampNeg = 0 from by decide, hkey.2.1 c2]; simp [lg_cmp]
      refine lv_if_eq (tgt := 837) hx hb dlaw_832 (by decide) (fun c3 => ?_) (fun c3 => ?_)
      · refine lv_goto (tgt := 952) hx hb dlaw_837 (by decide) ?_
        exact kk σ' f' νM H locs ls hkey.2.2 hP hD hS (lv_sub hl [2, 3, 4, 5, 6] rfl)
      · exact absurd hcm c3
  · exact absurd hkey.1 c1
set_option maxHeartbeats 4000000 in
set_option maxRecDepth 100000 in
theorem lc_next (hC : lwC p s m meth c bb L xs D cI cP cL cJ cZ) (hfl : l.stackTraces = false) (ht : 4 * t + 4 ≤ L) (hL : L ≤ 2048) (hsim : Sim σ μ) (hP : va_P D gC (lwW cI cP cL cJ cZ a ho b (σ, f, μ)) H) (hD : va_D (lwA s) (lwW cI cP cL cJ cZ a ho b (σ, f, μ))) (hS : va_S (lwA s) s.heap H locs) (hl : lv_has ls 7 (lwv bb a b ho t))
    (kk : ∀ (σ : nSt) (f : Nat → Int64) (μ : mSt) (H : Heap) (locs : List Loc) (ls : Array Slot), Sim σ μ → va_P D gC (lwW cI cP cL cJ cZ a ho b (σ, f, μ)) H → va_D (lwA s) (lwW cI cP cL cJ cZ a ho b (σ, f, μ)) → va_S (lwA s) s.heap H locs → lv_has ls 7 (lwv bb a b ho t) → W p l e room_1 s m #[Value.ref bb] below meth c H locs (28 + t) (97286 + 10241 * t) (lw_Z below #[Value.ref bb] s) (F0 m 952 ls [])) :
    W p l e room_1 s m #[Value.ref bb] below meth c H locs (27 + t) (87045 + 10241 * t) (lw_Z below #[Value.ref bb] s) (F0 m 840 ls []) := by
  obtain ⟨E, hX, hbl, hZ, hT, hK⟩ := hC
  obtain ⟨hx, hb, hr, hml, hts, hown, hlocks, hnm⟩ := id E
  have hA : ∀ q : Nat, s.heap.size ≤ q → lwA s q := fun _ h => h
  have hbA : ¬ lwA s bb := Nat.not_le.mpr hbl
  have hKn : va_K D gC (hpT cI cP cL) s := hK.sub [0, 1, 2] rfl
  have hKm : va_K D gC (mdT cJ cZ) s := hK.sub [3, 4] rfl
  obtain ⟨post, thr, rM, νM, hcl, hmd, h1, h2⟩ := st_next hsim (xs (4 * t + 1))
  have hl : lv_has ls 7 [(0, .ref bb), (1, .ref (a 0)), (2, .ref (b 0)), (3, .ref ho), (4, .int (nI (4 * t)))] := hl
  refine lv_aload_n hx hb dlaw_840 rfl (lv_at hl 1 rfl) ?_
  refine lv_aload_n hx hb dlaw_841 rfl (lv_at hl 0 rfl) ?_
  refine lv_iload hx hb dlaw_842 (lv_at hl 4 rfl) ?_
  refine lv_iconst (v := 1) hx hb dlaw_844 (by decide) ?_
  refine lv_iadd hx hb dlaw_845 ?_
  refine gx_top (z := nI (4 * t + 1)) (by rw [show (1 : Int32) = nI 1 from rfl, nI_add]) ?_
  refine va_sld hx hb hX hbl hbA hS (vp_in_nI (show 4 * t + 1 < L by omega) (by omega)) dlaw_846 ?_
  refine gx_top (z := xs (4 * t + 1)) (congrArg xs (nI_clamp (by omega))) ?_
  refine lv_aload_n hx hb dlaw_847 rfl (lv_at hl 3 rfl) ?_
  refine gz_calls (wr := mdW cJ cZ b μ) (As := [.ref (a 0), .int (xs (4 * t + 1)), .ref ho]) (rest := []) E (hp_next l hfl D cI cP cL a ho σ f (xs (4 * t + 1)) post thr (hcl l hfl D cI cP a) (fun X hX => ⟨_, (h2 X hX).choose_spec.1⟩)) (gx_cwSW hts l_Lw_104 k_Lw_next kt_Lw_next z_Lw n_Lw_next ⟨by decide, by decide⟩) [0, 1, 2, 3, 4, 5, 6, 7, 8, 9] [10, 11, 12, 13, 14, 15, 16, 17, 18, 19, 20, 21, 22, 23, 24, 25, 26] rfl rfl rfl rfl (by decide) hKn hZ hT hP hD hS hA hl.1 rfl rfl (Nat.le_of_ble_eq_true rfl) ⟨by show 27 + t + 1 ≤ 601024; omega, by show 87045 + 10241 * t + 6 ≤ 7293034; omega⟩ dlaw_848 (fun k u H locs hq hP hD hS => ?_)
  obtain ⟨σ', f'⟩ := u
  have hkey := hp_key hq h1 h2 cds1u cds1z
  have hP : va_P D gC (lwW cI cP cL cJ cZ a ho b (σ', f', μ)) H := hP.sub [17, 18, 19, 20, 21, 22, 23, 24, 25, 26, 0, 1, 2, 3, 4, 5, 6, 7, 8, 9, 10, 11, 12, 13, 14, 15, 16] rfl
  have hD : va_D (lwA s) (lwW cI cP cL cJ cZ a ho b (σ', f', μ)) := hD.sub [17, 18, 19, 20, 21, 22, 23, 24, 25, 26, 0, 1, 2, 3, 4, 5, 6, 7, 8, 9, 10, 11, 12, 13, 14, 15, 16] rfl rfl
  refine W.widen (k := 28 + t) (n := 97286 + 10241 * t) (by show 27 + t + 1 ≤ 28 + t; omega) (by show 87045 + 10241 * t + 6 ≤ 97286 + 10241 * t; omega) ?_
  refine lv_istore (lv' := [(5, .int k), (0, .ref bb), (1, .ref (a 0)), (2, .ref (b 0)), (3, .ref ho), (4, .int (nI (4 * t)))]) hx hb dlaw_851 hl (by decide) rfl (fun ls hl => ?_)
  refine lv_aload_n hx hb dlaw_853 rfl (lv_at hl 3 rfl) ?_
  refine lv_aload_n hx hb dlaw_854 rfl (lv_at hl 1 rfl) ?_
  refine lv_iload hx hb dlaw_855 (lv_at hl 5 rfl) ?_
  refine lv_iconst (v := 1) hx hb dlaw_857 (by decide) ?_
  refine lv_iadd hx hb dlaw_858 ?_
  refine gx_top (z := nI (4 * t + 1)) (by rw [show (1 : Int32) = nI 1 from rfl, nI_add]) ?_
  refine va_sld hx hb hX hbl hbA hS (vp_in_nI (show 4 * t + 1 < L by omega) (by omega)) dlaw_859 ?_
  refine gx_top (z := xs (4 * t + 1)) (congrArg xs (nI_clamp (by omega))) ?_
  refine gx_calliS (C := "NurseryRowModel") (wr := nrW cI cP a σ' ++ [(ho, .inl (cL, 1, .inr (.inl f')))]) (As := [.int (xs (4 * t + 1))]) (rest := []) E (hmd l D cJ cZ b) (gx_cwV hts l_Lw_106 k_Md_next ki_Md_next ke_Md_next z_Md n_Md_next ⟨by decide, by decide⟩) [10, 11, 12, 13, 14, 15, 16, 17, 18, 19, 20, 21, 22, 23, 24, 25, 26] [0, 1, 2, 3, 4, 5, 6, 7, 8, 9] rfl rfl rfl rfl (by decide) hKm hP hD hS hA (va_recv hK hP (ci := 2) (q0 := 10) rfl rfl) hl.1 rfl rfl (Nat.le_of_ble_eq_true rfl) ⟨by show 28 + t + 0 ≤ 601024; omega, by show 97286 + 10241 * t + 0 ≤ 7293034; omega⟩ dlaw_860 (fun r u H locs hq hP hD hS => ?_)
  rw [hq.2] at hP hD
  refine gx_top (z := rM) hq.1 ?_
  have hP : va_P D gC (lwW cI cP cL cJ cZ a ho b (σ', f', νM)) H := hP
  have hD : va_D (lwA s) (lwW cI cP cL cJ cZ a ho b (σ', f', νM)) := hD
  refine W.widen (k := 28 + t) (n := 97286 + 10241 * t) (by show 28 + t + 0 ≤ 28 + t; omega) (by show 97286 + 10241 * t + 0 ≤ 97286 + 10241 * t; omega) ?_
  refine lv_istore (lv' := [(6, .int rM), (5, .int k), (0, .ref bb), (1, .ref (a 0)), (2, .ref (b 0)), (3, .ref ho), (4, .int (nI (4 * t)))]) hx hb dlaw_863 hl (by decide) rfl (fun ls hl => ?_)
  refine lv_aload_n hx hb dlaw_865 rfl (lv_at hl 4 rfl) ?_
  refine gx_callpS (C := "NurseryRowModel") (As := []) (rest := []) E (qMd_thrown l D cJ cZ b νM) (gx_cwV hts l_Lw_68 k_Md_thrown ki_Md_thrown ke_Md_thrown z_Md n_Md_thrown ⟨by decide, by decide⟩) [10, 11, 12, 13, 14, 15, 16, 17, 18, 19, 20, 21, 22, 23, 24, 25, 26] rfl rfl hKm hP hD (va_recv hK hP (ci := 2) (q0 := 10) rfl rfl) hl.1 rfl rfl (Nat.le_of_ble_eq_true rfl) ⟨by show 28 + t ≤ 601024; omega, by show 97286 + 10241 * t ≤ 7293034; omega⟩ dlaw_866 ?_
  refine lv_iload hx hb dlaw_869 (lv_at hl 1 rfl) ?_
  refine lv_icmp_eq (tgt := 876) hx hb dlaw_871 (by decide) (fun c1 => ?_) (fun c1 => ?_)
  · skip
    refine lv_iload hx hb dlaw_876 (lv_at hl 1 rfl) ?_
    refine lv_if_ne (tgt := 893) hx hb dlaw_878 (by decide) (fun c2 => ?_) (fun c2 => ?_)
    · refine lv_goto (tgt := 952) hx hb dlaw_893 (by decide) ?_
      exact kk σ' f' νM H locs ls hkey.2.2 hP hD hS (lv_sub hl [2, 3, 4, 5, 6] rfl)
    · skip
      refine lv_aload_n hx hb dlaw_881 rfl (lv_at hl 5 rfl) ?_
      refine lv_iconst (v := 0) hx hb dlaw_882 (by decide) ?_
      refine va_lald hx hb hK hP 9 2 rfl rfl (by unfold vp_in; decide) dlaw_883 ?_
      refine lv_iload hx hb dlaw_884 (lv_at hl 0 rfl) ?_
      refine lv_i2l hx hb dlaw_886 rfl ?_
      refine W.lcmp hx hb dlaw_887 ?_
      have hcm : lg_cmp (f' (0 : Int32).toNatClampNeg) rM.toInt64 = 0 := by rw [show (0 : Int32).toNatClampNeg = 0 from by decide, hkey.2.1 c2]; simp [lg_cmp]
      refine lv_if_eq (tgt := 893) hx hb dlaw_888 (by decide) (fun c3 => ?_) (fun c3 => ?_)
      · refine lv_goto (tgt := 952) hx hb dlaw_893 (by decide) ?_
        exact kk σ' f' νM H locs ls hkey.2.2 hP hD hS (lv_sub hl [2, 3, 4, 5, 6] rfl)
      · exact absurd hcm c3
  · exact absurd hkey.1 c1
set_option maxHeartbeats 4000000 in
set_option maxRecDepth 100000 in
theorem lc_count (hC : lwC p s m meth c bb L xs D cI cP cL cJ cZ) (hfl : l.stackTraces = false) (ht : 4 * t + 4 ≤ L) (hL : L ≤ 2048) (hsim : Sim σ μ) (hP : va_P D gC (lwW cI cP cL cJ cZ a ho b (σ, f, μ)) H) (hD : va_D (lwA s) (lwW cI cP cL cJ cZ a ho b (σ, f, μ))) (hS : va_S (lwA s) s.heap H locs) (hl : lv_has ls 7 (lwv bb a b ho t))
    (kk : ∀ (σ : nSt) (f : Nat → Int64) (μ : mSt) (H : Heap) (locs : List Loc) (ls : Array Slot), Sim σ μ → va_P D gC (lwW cI cP cL cJ cZ a ho b (σ, f, μ)) H → va_D (lwA s) (lwW cI cP cL cJ cZ a ho b (σ, f, μ)) → va_S (lwA s) s.heap H locs → lv_has ls 7 (lwv bb a b ho t) → W p l e room_1 s m #[Value.ref bb] below meth c H locs (28 + t) (97286 + 10241 * t) (lw_Z below #[Value.ref bb] s) (F0 m 952 ls [])) :
    W p l e room_1 s m #[Value.ref bb] below meth c H locs (27 + t) (87045 + 10241 * t) (lw_Z below #[Value.ref bb] s) (F0 m 896 ls []) := by
  obtain ⟨E, hX, hbl, hZ, hT, hK⟩ := hC
  obtain ⟨hx, hb, hr, hml, hts, hown, hlocks, hnm⟩ := id E
  have hA : ∀ q : Nat, s.heap.size ≤ q → lwA s q := fun _ h => h
  have hbA : ¬ lwA s bb := Nat.not_le.mpr hbl
  have hKn : va_K D gC (hpT cI cP cL) s := hK.sub [0, 1, 2] rfl
  have hKm : va_K D gC (mdT cJ cZ) s := hK.sub [3, 4] rfl
  obtain ⟨post, thr, rM, νM, hcl, hmd, h1, h2⟩ := st_count hsim (xs (4 * t + 1))
  have hl : lv_has ls 7 [(0, .ref bb), (1, .ref (a 0)), (2, .ref (b 0)), (3, .ref ho), (4, .int (nI (4 * t)))] := hl
  refine lv_aload_n hx hb dlaw_896 rfl (lv_at hl 1 rfl) ?_
  refine lv_aload_n hx hb dlaw_897 rfl (lv_at hl 0 rfl) ?_
  refine lv_iload hx hb dlaw_898 (lv_at hl 4 rfl) ?_
  refine lv_iconst (v := 1) hx hb dlaw_900 (by decide) ?_
  refine lv_iadd hx hb dlaw_901 ?_
  refine gx_top (z := nI (4 * t + 1)) (by rw [show (1 : Int32) = nI 1 from rfl, nI_add]) ?_
  refine va_sld hx hb hX hbl hbA hS (vp_in_nI (show 4 * t + 1 < L by omega) (by omega)) dlaw_902 ?_
  refine gx_top (z := xs (4 * t + 1)) (congrArg xs (nI_clamp (by omega))) ?_
  refine lv_aload_n hx hb dlaw_903 rfl (lv_at hl 3 rfl) ?_
  refine gz_calls (wr := mdW cJ cZ b μ) (As := [.ref (a 0), .int (xs (4 * t + 1)), .ref ho]) (rest := []) E (hp_count l hfl D cI cP cL a ho σ f (xs (4 * t + 1)) post thr (hcl l hfl D cI cP a) (fun X hX => ⟨_, (h2 X hX).choose_spec.1⟩)) (gx_cwSW hts l_Lw_107 k_Lw_count kt_Lw_count z_Lw n_Lw_count ⟨by decide, by decide⟩) [0, 1, 2, 3, 4, 5, 6, 7, 8, 9] [10, 11, 12, 13, 14, 15, 16, 17, 18, 19, 20, 21, 22, 23, 24, 25, 26] rfl rfl rfl rfl (by decide) hKn hZ hT hP hD hS hA hl.1 rfl rfl (Nat.le_of_ble_eq_true rfl) ⟨by show 27 + t + 1 ≤ 601024; omega, by show 87045 + 10241 * t + 6 ≤ 7293034; omega⟩ dlaw_904 (fun k u H locs hq hP hD hS => ?_)
  obtain ⟨σ', f'⟩ := u
  have hkey := hp_key hq h1 h2 cds1u cds1z
  have hP : va_P D gC (lwW cI cP cL cJ cZ a ho b (σ', f', μ)) H := hP.sub [17, 18, 19, 20, 21, 22, 23, 24, 25, 26, 0, 1, 2, 3, 4, 5, 6, 7, 8, 9, 10, 11, 12, 13, 14, 15, 16] rfl
  have hD : va_D (lwA s) (lwW cI cP cL cJ cZ a ho b (σ', f', μ)) := hD.sub [17, 18, 19, 20, 21, 22, 23, 24, 25, 26, 0, 1, 2, 3, 4, 5, 6, 7, 8, 9, 10, 11, 12, 13, 14, 15, 16] rfl rfl
  refine W.widen (k := 28 + t) (n := 97286 + 10241 * t) (by show 27 + t + 1 ≤ 28 + t; omega) (by show 87045 + 10241 * t + 6 ≤ 97286 + 10241 * t; omega) ?_
  refine lv_istore (lv' := [(5, .int k), (0, .ref bb), (1, .ref (a 0)), (2, .ref (b 0)), (3, .ref ho), (4, .int (nI (4 * t)))]) hx hb dlaw_907 hl (by decide) rfl (fun ls hl => ?_)
  refine lv_aload_n hx hb dlaw_909 rfl (lv_at hl 3 rfl) ?_
  refine lv_aload_n hx hb dlaw_910 rfl (lv_at hl 1 rfl) ?_
  refine lv_iload hx hb dlaw_911 (lv_at hl 5 rfl) ?_
  refine lv_iconst (v := 1) hx hb dlaw_913 (by decide) ?_
  refine lv_iadd hx hb dlaw_914 ?_
  refine gx_top (z := nI (4 * t + 1)) (by rw [show (1 : Int32) = nI 1 from rfl, nI_add]) ?_
  refine va_sld hx hb hX hbl hbA hS (vp_in_nI (show 4 * t + 1 < L by omega) (by omega)) dlaw_915 ?_
  refine gx_top (z := xs (4 * t + 1)) (congrArg xs (nI_clamp (by omega))) ?_
  refine gx_calliS (C := "NurseryRowModel") (wr := nrW cI cP a σ' ++ [(ho, .inl (cL, 1, .inr (.inl f')))]) (As := [.int (xs (4 * t + 1))]) (rest := []) E (hmd l D cJ cZ b) (gx_cwV hts l_Lw_109 k_Md_count ki_Md_count ke_Md_count z_Md n_Md_count ⟨by decide, by decide⟩) [10, 11, 12, 13, 14, 15, 16, 17, 18, 19, 20, 21, 22, 23, 24, 25, 26] [0, 1, 2, 3, 4, 5, 6, 7, 8, 9] rfl rfl rfl rfl (by decide) hKm hP hD hS hA (va_recv hK hP (ci := 2) (q0 := 10) rfl rfl) hl.1 rfl rfl (Nat.le_of_ble_eq_true rfl) ⟨by show 28 + t + 0 ≤ 601024; omega, by show 97286 + 10241 * t + 0 ≤ 7293034; omega⟩ dlaw_916 (fun r u H locs hq hP hD hS => ?_)
  rw [hq.2] at hP hD
  refine gx_top (z := rM) hq.1 ?_
  have hP : va_P D gC (lwW cI cP cL cJ cZ a ho b (σ', f', νM)) H := hP
  have hD : va_D (lwA s) (lwW cI cP cL cJ cZ a ho b (σ', f', νM)) := hD
  refine W.widen (k := 28 + t) (n := 97286 + 10241 * t) (by show 28 + t + 0 ≤ 28 + t; omega) (by show 97286 + 10241 * t + 0 ≤ 97286 + 10241 * t; omega) ?_
  refine lv_istore (lv' := [(6, .int rM), (5, .int k), (0, .ref bb), (1, .ref (a 0)), (2, .ref (b 0)), (3, .ref ho), (4, .int (nI (4 * t)))]) hx hb dlaw_919 hl (by decide) rfl (fun ls hl => ?_)
  refine lv_aload_n hx hb dlaw_921 rfl (lv_at hl 4 rfl) ?_
  refine gx_callpS (C := "NurseryRowModel") (As := []) (rest := []) E (qMd_thrown l D cJ cZ b νM) (gx_cwV hts l_Lw_68 k_Md_thrown ki_Md_thrown ke_Md_thrown z_Md n_Md_thrown ⟨by decide, by decide⟩) [10, 11, 12, 13, 14, 15, 16, 17, 18, 19, 20, 21, 22, 23, 24, 25, 26] rfl rfl hKm hP hD (va_recv hK hP (ci := 2) (q0 := 10) rfl rfl) hl.1 rfl rfl (Nat.le_of_ble_eq_true rfl) ⟨by show 28 + t ≤ 601024; omega, by show 97286 + 10241 * t ≤ 7293034; omega⟩ dlaw_922 ?_
  refine lv_iload hx hb dlaw_925 (lv_at hl 1 rfl) ?_
  refine lv_icmp_eq (tgt := 932) hx hb dlaw_927 (by decide) (fun c1 => ?_) (fun c1 => ?_)
  · skip
    refine lv_iload hx hb dlaw_932 (lv_at hl 1 rfl) ?_
    refine lv_if_ne (tgt := 949) hx hb dlaw_934 (by decide) (fun c2 => ?_) (fun c2 => ?_)
    · refine lv_goto (tgt := 952) hx hb dlaw_949 (by decide) ?_
      exact kk σ' f' νM H locs ls hkey.2.2 hP hD hS (lv_sub hl [2, 3, 4, 5, 6] rfl)
    · skip
      refine lv_aload_n hx hb dlaw_937 rfl (lv_at hl 5 rfl) ?_
      refine lv_iconst (v := 0) hx hb dlaw_938 (by decide) ?_
      refine va_lald hx hb hK hP 9 2 rfl rfl (by unfold vp_in; decide) dlaw_939 ?_
      refine lv_iload hx hb dlaw_940 (lv_at hl 0 rfl) ?_
      refine lv_i2l hx hb dlaw_942 rfl ?_
      refine W.lcmp hx hb dlaw_943 ?_
      have hcm : lg_cmp (f' (0 : Int32).toNatClampNeg) rM.toInt64 = 0 := by rw [show (0 : Int32).toNatClampNeg = 0 from by decide, hkey.2.1 c2]; simp [lg_cmp]
      refine lv_if_eq (tgt := 949) hx hb dlaw_944 (by decide) (fun c3 => ?_) (fun c3 => ?_)
      · refine lv_goto (tgt := 952) hx hb dlaw_949 (by decide) ?_
        exact kk σ' f' νM H locs ls hkey.2.2 hP hD hS (lv_sub hl [2, 3, 4, 5, 6] rfl)
      · exact absurd hcm c3
  · exact absurd hkey.1 c1
end CASES
