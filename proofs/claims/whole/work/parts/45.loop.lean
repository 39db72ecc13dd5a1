/-! THE LAW'S LOOP -/
section LOOP
variable {p : Program} {l : Launch} {e : Env} {s : State} {m : MethodId} {below : List Frame} {meth : Method} {c : Code} {bb L : Nat} {xs : Nat → Int32} {D : va_G} {cI cP cL cJ cZ : ClassId} {a b : Nat → Nat} {ho : Nat}
set_option maxHeartbeats 4000000 in
set_option maxRecDepth 100000 in
theorem law_loop (hC : lwC p s m meth c bb L xs D cI cP cL cJ cZ) (hfl : l.stackTraces = false) (hL : L ≤ 2048) : ∀ (n t : Nat) (σ : nSt) (f : Nat → Int64) (μ : mSt) (H : Heap) (locs : List Loc) (ls : Array Slot), t + n = 513 → 4 * t ≤ L → Sim σ μ → va_P D gC (lwW cI cP cL cJ cZ a ho b (σ, f, μ)) H → va_D (lwA s) (lwW cI cP cL cJ cZ a ho b (σ, f, μ)) → va_S (lwA s) s.heap H locs → lv_has ls 7 (lwv bb a b ho t) → W p l e room_1 s m #[Value.ref bb] below meth c H locs (27 + t) (87045 + 10241 * t) (lw_Z below #[Value.ref bb] s) (F0 m 23 ls []) := by
  obtain ⟨E, hX, hbl, hZ, hT, hK⟩ := id hC
  obtain ⟨hx, hb, hr, hml, hts, hown, hlocks, hnm⟩ := id E
  have hbA : ¬ lwA s bb := Nat.not_le.mpr hbl
  intro n
  induction n with
  | zero =>
    intro t σ f μ H locs ls h1 h2
    exact absurd h2 (by omega)
  | succ n ih =>
    intro t σ f μ H locs ls hte htL hsim hP hD hS hl
    refine lv_iload hx hb dlaw_23 (lv_at hl 4 rfl) ?_
    refine lv_aload_n hx hb dlaw_25 rfl (lv_at hl 0 rfl) ?_
    refine va_slen hx hb hX hbl hbA hS dlaw_26 ?_
    refine lv_iconst (v := 4) hx hb dlaw_27 (by decide) ?_
    refine lv_isub hx hb dlaw_28 ?_
    refine lv_icmp_gt (tgt := 958) hx hb dlaw_29 (by decide) (fun c1 => ?_) (fun c1 => ?_)
    · refine lv_iconst (v := 1) hx hb dlaw_958 (by decide) ?_
      refine va_forget (fun q hq => hS.2.2 q hq) ?_
      refine W.widen (k := 601024) (n := 7293034) (by omega) (by omega) ?_
      exact lw_ret hx hb hr hlocks dlaw_959
    · have h4 : 4 * t + 4 ≤ L := by
        refine Nat.not_lt.mp fun q => c1 ?_
        show nI L - nI 4 < nI (4 * t)
        rw [Int32.lt_iff_toInt_lt, pk_sub_toInt (by omega) (by omega), nI_toInt (by omega)]
        omega
      have kk : ∀ (σ : nSt) (f : Nat → Int64) (μ : mSt) (H : Heap) (locs : List Loc) (ls : Array Slot), Sim σ μ → va_P D gC (lwW cI cP cL cJ cZ a ho b (σ, f, μ)) H → va_D (lwA s) (lwW cI cP cL cJ cZ a ho b (σ, f, μ)) → va_S (lwA s) s.heap H locs → lv_has ls 7 (lwv bb a b ho t) → W p l e room_1 s m #[Value.ref bb] below meth c H locs (28 + t) (97286 + 10241 * t) (lw_Z below #[Value.ref bb] s) (F0 m 952 ls []) := by
        intro σ f μ H locs ls hsim hP hD hS hl
        refine lv_iinc (v := nI (4 * (t + 1))) (lv' := [(4, .int (nI (4 * (t + 1)))), (0, .ref bb), (1, .ref (a 0)), (2, .ref (b 0)), (3, .ref ho)]) hx hb dlaw_952 hl (k := 4) rfl (by rw [show 4 * (t + 1) = 4 * t + 4 by omega, ← nI_add]; rfl) (by decide) rfl (fun ls hl => ?_)
        refine lv_goto (tgt := 23) hx hb dlaw_955 (by decide) ?_
        refine W.widen (k := 27 + (t + 1)) (n := 87045 + 10241 * (t + 1)) (by omega) (by omega) ?_
        exact ih (t + 1) σ f μ H locs ls (by omega) (by omega) hsim hP hD hS (lv_sub hl [1, 2, 3, 4, 0] rfl)
      refine lv_aload_n hx hb dlaw_32 rfl (lv_at hl 0 rfl) ?_
      refine lv_iload hx hb dlaw_33 (lv_at hl 4 rfl) ?_
      refine va_sld hx hb hX hbl hbA hS (vp_in_nI (show 4 * t < L by omega) (by omega)) dlaw_35 ?_
      refine lv_bipush (v := 15) hx hb dlaw_36 (by decide) ?_
      refine lv_iand hx hb dlaw_38 ?_
      rcases tsw (xs (nI (4 * t)).toNatClampNeg &&& 15) 12 (by decide) with ht | ⟨jw, hjw, hxw⟩
      · refine lv_tableOut (tgt := 952) hx hb dlaw_39 ht (by decide) ?_
        refine W.widen (k := 28 + t) (n := 97286 + 10241 * t) (by omega) (by omega) ?_
        exact kk σ f μ H locs ls hsim hP hD hS hl
      · rcases (show jw = 0 ∨ jw = 1 ∨ jw = 2 ∨ jw = 3 ∨ jw = 4 ∨ jw = 5 ∨ jw = 6 ∨ jw = 7 ∨ jw = 8 ∨ jw = 9 ∨ jw = 10 ∨ jw = 11 ∨ jw = 12 by omega) with rfl | rfl | rfl | rfl | rfl | rfl | rfl | rfl | rfl | rfl | rfl | rfl | rfl
        · refine gx_top (z := 0) hxw ?_
          refine lv_tableIn (tgt := 104) hx hb dlaw_39 (by decide) (by decide) rfl (by decide) ?_
          exact lc_space hC hfl h4 hL hsim hP hD hS hl kk
        · refine gx_top (z := 1) hxw ?_
          refine lv_tableIn (tgt := 184) hx hb dlaw_39 (by decide) (by decide) rfl (by decide) ?_
          exact lc_limit hC hfl h4 hL hsim hP hD hS hl kk
        · refine gx_top (z := 2) hxw ?_
          refine lv_tableIn (tgt := 240) hx hb dlaw_39 (by decide) (by decide) rfl (by decide) ?_
          exact lc_make hC hfl h4 hL hsim hP hD hS hl kk
        · refine gx_top (z := 3) hxw ?_
          refine lv_tableIn (tgt := 308) hx hb dlaw_39 (by decide) (by decide) rfl (by decide) ?_
          exact lc_set hC hfl h4 hL hsim hP hD hS hl kk
        · refine gx_top (z := 4) hxw ?_
          refine lv_tableIn (tgt := 388) hx hb dlaw_39 (by decide) (by decide) rfl (by decide) ?_
          exact lc_get hC hfl h4 hL hsim hP hD hS hl kk
        · refine gx_top (z := 5) hxw ?_
          refine lv_tableIn (tgt := 456) hx hb dlaw_39 (by decide) (by decide) rfl (by decide) ?_
          exact lc_put hC hfl h4 hL hsim hP hD hS hl kk
        · refine gx_top (z := 6) hxw ?_
          refine lv_tableIn (tgt := 536) hx hb dlaw_39 (by decide) (by decide) rfl (by decide) ?_
          exact lc_word hC hfl h4 hL hsim hP hD hS hl kk
        · refine gx_top (z := 7) hxw ?_
          refine lv_tableIn (tgt := 604) hx hb dlaw_39 (by decide) (by decide) rfl (by decide) ?_
          exact lc_root hC hfl h4 hL hsim hP hD hS hl kk
        · refine gx_top (z := 8) hxw ?_
          refine lv_tableIn (tgt := 672) hx hb dlaw_39 (by decide) (by decide) rfl (by decide) ?_
          exact lc_rooted hC hfl h4 hL hsim hP hD hS hl kk
        · refine gx_top (z := 9) hxw ?_
          refine lv_tableIn (tgt := 728) hx hb dlaw_39 (by decide) (by decide) rfl (by decide) ?_
          exact lc_collect hC hfl h4 hL hsim hP hD hS hl kk
        · refine gx_top (z := 10) hxw ?_
          refine lv_tableIn (tgt := 772) hx hb dlaw_39 (by decide) (by decide) rfl (by decide) ?_
          exact lc_about hC hfl h4 hL hsim hP hD hS hl kk
        · refine gx_top (z := 11) hxw ?_
          refine lv_tableIn (tgt := 840) hx hb dlaw_39 (by decide) (by decide) rfl (by decide) ?_
          exact lc_next hC hfl h4 hL hsim hP hD hS hl kk
        · refine gx_top (z := 12) hxw ?_
          refine lv_tableIn (tgt := 896) hx hb dlaw_39 (by decide) (by decide) rfl (by decide) ?_
          exact lc_count hC hfl h4 hL hsim hP hD hS hl kk
end LOOP
