/-! THE CLASS'S CONSTRUCTOR -/
theorem gx_refs {D : va_G} {cl : List vw_C} {A : Nat → Prop} {ws : va_W} {H : Heap} {k q n : Nat} {c : ClassId} {g g' : Nat → Option Nat} (hP : va_P D cl ws H) (hD : va_D A ws) (hk : ws[k]? = some (q, .inl (c, n, .inr (.inr (.inr (.inr g)))))) (h : ∀ j, j < n → g j = g' j) :
    va_P D cl (ws.set k (q, .inl (c, n, .inr (.inr (.inr (.inr g')))))) H := by
  refine hP.set hD hk ?_ (fun _ _ => rfl)
  have h1 : H[q]? = some (vp_cell c (n, .inr (.inr (.inr (.inr g))))) := hP k _ hk
  show H[q]? = some (vp_cell c (n, .inr (.inr (.inr (.inr g')))))
  rw [h1]
  have e : (fun j : Fin n => va_rf (g j.val)) = fun j : Fin n => va_rf (g' j.val) := funext fun j => by rw [h j.val j.isLt]
  show some (arrV c n (fun j => va_rf (g j))) = some (arrV c n (fun j => va_rf (g' j)))
  simp only [arrV, e]
theorem wnInit : va_Nw (.methodLinkNest "NurseryRow" 15 yPt_init "NurseryRow") = va_Nw (.methodLinkNest "NurseryRow" 15 yPt_init "NurseryRow") := rfl
set_option maxHeartbeats 4000000 in
set_option maxRecDepth 100000 in
/-- nothing happens -/
theorem qPt_init (l : Launch) (D : va_G) (tys : List (ClassId × FieldType)) (h : Nat) (u : pSt) : gx_Mv l yPt_init (Cond.code yPt_init cPt_init 1 none :: gW) (gR 1) D gC tys (ptW h) u [.ref h] (fun v => v = u) := by
  refine gx_Mv.of (cc := cPt_init) (maxL := 1) (by decide) rfl (Nat.le_of_ble_eq_true rfl) ?_
  intro p e s m args below meth c ls A E hA hK hP hD hS hl
  obtain ⟨hx, hb, hr, hml, hts, hown, hlocks, hnm⟩ := id E
  have hg : ∀ w ∈ gW, w.before args s = true := fun w h => hts w (List.mem_cons_of_mem _ h)
  have hown : s.vm.findClass "NurseryRow$Part" = some m.cls := hown
  have hl : lv_has ls 1 [(0, .ref h)] := hl
  refine lv_aload_n hx hb dPt_init_0 rfl (lv_at hl 0 rfl) ?_
  refine W.objInit hx hb hown (hg _ l_Pt_1) (hg _ ko_i) (hg _ ko_c) rfl (by rw [hml]; exact hl.1) rfl dPt_init_1 (by decide) (Nat.le_of_ble_eq_true rfl) ?_
  refine W.eq (g2 := F0 m 4 ls []) rfl ?_
  exact gx_vret (u := u) E hK hP hD hS rfl dPt_init_4
/-- a fresh class's state; its cells lie at h -/
def nrS1 (h : Nat) : nSt := (fun k => if k = 1 then 3 else 0, fun _ _ => 0, fun _ => 0, fun _ => 0, fun _ => 0, 2433, h)
def nrS0 (h : Nat) : nSt := laid (nrS1 h) 256 64 2048
/-- its cells' places, one by one -/
def ad8 (a0 a1 a2 a3 a4 a5 a6 a7 : Nat) : Nat → Nat := fun j => match j with
  | 0 => a0
  | 1 => a1
  | 2 => a2
  | 3 => a3
  | 4 => a4
  | 5 => a5
  | 6 => a6
  | _ => a7
set_option maxHeartbeats 8000000 in
set_option maxRecDepth 100000 in
/-- the constructor: eight cells come -/
theorem qNr_init (l : Launch) (D : va_G) (h0 sz : Nat) : Met l yNr_init (Cond.code yNr_init cNr_init 2 none :: gW) (gRc 3 8 2981) (va_Pc [.ref h0] (fun U => (U.heap.size = sz ∧ va_P D gC [(h0, .inr (1, [.null, .null, .null, .null, .int 0, .int 0, .int 0, .int 0, .int 0, .int 0]))] U.heap ∧ va_K D gC [] U ∧ va_D (fun _ => True) [(h0, .inr (1, [.null, .null, .null, .null, .int 0, .int 0, .int 0, .int 0, .int 0, .int 0]))]) ∧ va_AO "NurseryRow$Part" U ∧ va_Nw (.methodLinkNest "NurseryRow" 15 yPt_init "NurseryRow") U)) (va_Qv (fun u : ClassId × ClassId × (Nat → Nat) × nSt => u.2.2.1 0 = h0 ∧ u.2.2.2 = nrS0 u.2.2.2.hx) (fun u t => va_P D gC (nrW u.1 u.2.1 u.2.2.1 u.2.2.2) t.heap ∧ va_K D gC (nrT u.1 u.2.1) t ∧ va_D (va_A [(h0, .inr (1, [.null, .null, .null, .null, .int 0, .int 0, .int 0, .int 0, .int 0, .int 0]))] sz) (nrW u.1 u.2.1 u.2.2.1 u.2.2.2)) (va_A [(h0, .inr (1, [.null, .null, .null, .null, .int 0, .int 0, .int 0, .int 0, .int 0, .int 0]))] sz)) 8 2981 (va_A [(h0, .inr (1, [.null, .null, .null, .null, .int 0, .int 0, .int 0, .int 0, .int 0, .int 0]))] sz) := by
  refine Met.ofW (cc := cNr_init) (maxL := 2) (ret := none) (by decide) rfl ?_
  intro p e s m args below meth c s₁ B hml hv
  obtain ⟨rfl, ⟨hsz, hP, hK, hD0⟩, hAO, hNw⟩ := hv
  subst hsz
  have E : gx_E p s m _ meth c cNr_init none 2 (Cond.code yNr_init cNr_init 2 none :: gW) yNr_init := ⟨B.exec, B.bytes, B.returns, hml, atoms_spec (ws := Cond.code yNr_init cNr_init 2 none :: gW) B.pre, findClass_of_methodNamed B.named, B.notSynchronized, (name_of_methodNamed B.named B.method).1⟩
  have hD := hD0.self (sz := s.heap.size)
  generalize hAe : va_A [(h0, .inr (1, [.null, .null, .null, .null, .int 0, .int 0, .int 0, .int 0, .int 0, .int 0]))] s.heap.size = A at hD ⊢
  have hA : ∀ q : Nat, s.heap.size ≤ q → A q := fun q h => by rw [← hAe]; exact Or.inr h
  have hS : va_S A s.heap s.heap [] := va_S.rf
  have hl := lv_entry ([.ref h0]) (n := 2) (Nat.le_of_ble_eq_true rfl)
  rw [lg_entry_eq]
  generalize (lg_sl ([.ref h0]) ++ List.replicate (2 - (lg_sl ([.ref h0])).length) Slot.unset).toArray = ls at hl ⊢
  have hl : lv_has ls 2 [(0, .ref h0)] := hl
  obtain ⟨hx, hb, hr, hml, hts, hown, hlocks, hnm⟩ := id E
  have hg : ∀ w ∈ gW, w.before _ s = true := fun w h => hts w (List.mem_cons_of_mem _ h)
  have hown : s.vm.findClass "NurseryRow" = some m.cls := hown
  refine lv_aload_n hx hb dNr_init_0 rfl (lv_at hl 0 rfl) ?_
  refine W.objInit hx hb hown (hg _ l_Nr_3) (hg _ ko_i) (hg _ ko_c) rfl (by rw [hml]; exact hl.1) rfl dNr_init_1 (by decide) (Nat.le_of_ble_eq_true rfl) ?_
  refine W.eq (g2 := F0 m 4 ls []) rfl ?_
  refine lv_aload_n hx hb dNr_init_4 rfl (lv_at hl 0 rfl) ?_
  refine lv_iconst (v := 4) hx hb dNr_init_5 (by decide) ?_
  refine va_newq (C := "NurseryRow$Part") (N' := 4) hx hb hown (hg _ kl_Nr_9) hAO hK hP hD hS hA (by decide) (by decide) (by decide) (by decide) (by decide) dNr_init_6 (fun hp cP H hK hP hD hS => ?_)
  have hK : va_K D gC [(cP, .object "NurseryRow$Part")] s := hK
  have hP : va_P D gC [(h0, .inr (1, [.null, .null, .null, .null, .int 0, .int 0, .int 0, .int 0, .int 0, .int 0])), (hp, .inl (cP, 4, .inr (.inr (.inr (.inr (fun _ => none))))))] H := hP
  have hD : va_D A [(h0, .inr (1, [.null, .null, .null, .null, .int 0, .int 0, .int 0, .int 0, .int 0, .int 0])), (hp, .inl (cP, 4, .inr (.inr (.inr (.inr (fun _ => none))))))] := hD
  refine W.widen (k := 1) (n := 4) (by decide) (by decide) ?_
  refine va_putF (C := RNr) (T := TNr) (N := 10) (ci := 1) (v := .ref hp) hx hb hg inNr tyNr tyNr_ok nmNr hown hK hP hD hS 0 rfl rfl 0 (by decide) (hg _ f_Nr_11) (fun _ h9 => h9) rfl hnm rfl (tyNr_ok 0 (by decide)) rfl rfl (Nat.le_of_ble_eq_true rfl) dNr_init_9 (fun H locs hP hD hS => ?_)
  have hP : va_P D gC [(h0, .inr (1, [.ref hp, .null, .null, .null, .int 0, .int 0, .int 0, .int 0, .int 0, .int 0])), (hp, .inl (cP, 4, .inr (.inr (.inr (.inr (fun _ => none))))))] H := hP
  have hD : va_D A [(h0, .inr (1, [.ref hp, .null, .null, .null, .int 0, .int 0, .int 0, .int 0, .int 0, .int 0])), (hp, .inl (cP, 4, .inr (.inr (.inr (.inr (fun _ => none))))))] := hD
  refine lv_iconst (v := 0) hx hb dNr_init_12 (by decide) ?_
  refine lv_istore_n (lv' := [(1, .int 0), (0, .ref h0)]) hx hb dNr_init_13 rfl hl (by decide) rfl (fun ls hl => ?_)
  refine lv_iload_n hx hb dNr_init_14 rfl (lv_at hl 0 rfl) ?_
  refine lv_iconst (v := 4) hx hb dNr_init_15 (by decide) ?_
  refine lv_icmp_ge (tgt := 38) hx hb dNr_init_16 (by decide) (fun c_16 => ?_) (fun c_16 => ?_)
  · exact absurd c_16 (by decide)
  · refine lv_aload_n hx hb dNr_init_19 rfl (lv_at hl 1 rfl) ?_
    refine va_get (C := RNr) (T := TNr) (N := 10) (ci := 1) (v := .ref hp) hx hb hg inNr hown hK hP 0 rfl rfl 0 (by decide) (hg _ f_Nr_11) (fun _ h9 => h9) rfl dNr_init_20 ?_
    refine lv_iload_n hx hb dNr_init_23 rfl (lv_at hl 0 rfl) ?_
    refine va_new (C := RPt) (T := TPt) (N := 4) (ci := 0) (fs := [.int 0, .int 0, .int 0, .int 0]) hx hb hg inPt tyPt tyPt_ok hown (hg _ kl_Nr_9) (hg _ kn_Pt) (hg _ z_Pt) hK hP hD hS hA rfl (fun j hj => by rcases (show j = 0 ∨ j = 1 ∨ j = 2 ∨ j = 3 by omega) with rfl | rfl | rfl | rfl <;> rfl) (by decide) (by decide) dNr_init_24 (fun p0 H hP hD hS => ?_)
    have hP : va_P D gC [(h0, .inr (1, [.ref hp, .null, .null, .null, .int 0, .int 0, .int 0, .int 0, .int 0, .int 0])), (hp, .inl (cP, 4, .inr (.inr (.inr (.inr (fun _ => none)))))), (p0, .inr (0, [.int 0, .int 0, .int 0, .int 0]))] H := hP
    have hD : va_D A [(h0, .inr (1, [.ref hp, .null, .null, .null, .int 0, .int 0, .int 0, .int 0, .int 0, .int 0])), (hp, .inl (cP, 4, .inr (.inr (.inr (.inr (fun _ => none)))))), (p0, .inr (0, [.int 0, .int 0, .int 0, .int 0]))] := hD
    refine W.widen (k := 2) (n := 8) (by decide) (by decide) ?_
    refine lv_dup hx hb dNr_init_27 rfl ?_
    have hFc := va_free (wc := ptW p0 (0, 0, 0, 0)) hD hS hA [2] rfl
    have hPc : va_P D gC (ptW p0 (0, 0, 0, 0)) H := hP.sub [2] rfl
    have hDc : va_D A (ptW p0 (0, 0, 0, 0)) := hD.sub [2] rfl rfl
    refine va_callv (va_runIN (host := "NurseryRow") (As := []) (rest := [.ref p0, .int 0, .ref hp]) ⟨hx, hb, hml, hown, hts⟩ (qPt_init l D _ p0 (0, 0, 0, 0) H.size) ⟨va_cnB 0 hts (fun w h => by rcases List.mem_cons.mp h with h | h; rw [h]; exact gm_self _ k_Pt_init; exact gm_self _ h) rfl rfl rfl hNw (hg _ z_Pt) n_Pt_init.2 ⟨by decide, by decide⟩, rfl, hg _ ki_Pt_init⟩ ⟨gx_blind, gx_pre hPc hK hDc⟩ rfl rfl hl.1 rfl (lv_room (Nat.le_of_ble_eq_true rfl)) dNr_init_28 ⟨by decide, by decide⟩) hS (fun q _ h => hFc q h) hFc (fun u t H1 locs ht hvm hw hB hz1 hk1 hS => ?_)
    obtain ⟨hP1, hK1, hD1⟩ := hB
    subst hw
    rw [ht] at hP1
    obtain ⟨hP, hD⟩ := va_join (wr := [(h0, .inr (1, [.ref hp, .null, .null, .null, .int 0, .int 0, .int 0, .int 0, .int 0, .int 0])), (hp, .inl (cP, 4, .inr (.inr (.inr (.inr (fun _ => none))))))]) (w1 := ptW p0 (0, 0, 0, 0)) hP hD [2] [0, 1] rfl rfl (by decide) (by decide) hk1 hFc hP1 hD1
    generalize H1 = H at hP hS ⊢
    have hP : va_P D gC [(h0, .inr (1, [.ref hp, .null, .null, .null, .int 0, .int 0, .int 0, .int 0, .int 0, .int 0])), (hp, .inl (cP, 4, .inr (.inr (.inr (.inr (fun _ => none)))))), (p0, .inr (0, [.int 0, .int 0, .int 0, .int 0]))] H := hP
    have hD : va_D A [(h0, .inr (1, [.ref hp, .null, .null, .null, .int 0, .int 0, .int 0, .int 0, .int 0, .int 0])), (hp, .inl (cP, 4, .inr (.inr (.inr (.inr (fun _ => none)))))), (p0, .inr (0, [.int 0, .int 0, .int 0, .int 0]))] := hD
    refine W.widen (k := 2) (n := 8) (by decide) (by decide) ?_
    refine va_astq hx hb hK hP hD hS 1 0 2 0 rfl rfl rfl rfl (by unfold vp_in; decide) dNr_init_31 (fun H locs hP hD hS => ?_)
    have hP : va_P D gC [(h0, .inr (1, [.ref hp, .null, .null, .null, .int 0, .int 0, .int 0, .int 0, .int 0, .int 0])), (hp, .inl (cP, 4, .inr (.inr (.inr (.inr (va_up (fun _ => none) 0 (some p0))))))), (p0, .inr (0, [.int 0, .int 0, .int 0, .int 0]))] H := hP
    have hD : va_D A [(h0, .inr (1, [.ref hp, .null, .null, .null, .int 0, .int 0, .int 0, .int 0, .int 0, .int 0])), (hp, .inl (cP, 4, .inr (.inr (.inr (.inr (va_up (fun _ => none) 0 (some p0))))))), (p0, .inr (0, [.int 0, .int 0, .int 0, .int 0]))] := hD
    refine lv_iinc (v := 1) (lv' := [(1, .int 1), (0, .ref h0)]) hx hb dNr_init_32 hl (k := 0) rfl (by decide) (by decide) rfl (fun ls hl => ?_)
    refine lv_goto (tgt := 14) hx hb dNr_init_35 (by decide) ?_
    refine lv_iload_n hx hb dNr_init_14 rfl (lv_at hl 0 rfl) ?_
    refine lv_iconst (v := 4) hx hb dNr_init_15 (by decide) ?_
    refine lv_icmp_ge (tgt := 38) hx hb dNr_init_16 (by decide) (fun c_16' => ?_) (fun c_16' => ?_)
    · exact absurd c_16' (by decide)
    · refine lv_aload_n hx hb dNr_init_19 rfl (lv_at hl 1 rfl) ?_
      refine va_get (C := RNr) (T := TNr) (N := 10) (ci := 1) (v := .ref hp) hx hb hg inNr hown hK hP 0 rfl rfl 0 (by decide) (hg _ f_Nr_11) (fun _ h9 => h9) rfl dNr_init_20 ?_
      refine lv_iload_n hx hb dNr_init_23 rfl (lv_at hl 0 rfl) ?_
      refine va_new (C := RPt) (T := TPt) (N := 4) (ci := 0) (fs := [.int 0, .int 0, .int 0, .int 0]) hx hb hg inPt tyPt tyPt_ok hown (hg _ kl_Nr_9) (hg _ kn_Pt) (hg _ z_Pt) hK hP hD hS hA rfl (fun j hj => by rcases (show j = 0 ∨ j = 1 ∨ j = 2 ∨ j = 3 by omega) with rfl | rfl | rfl | rfl <;> rfl) (by decide) (by decide) dNr_init_24 (fun p1 H hP hD hS => ?_)
      have hP : va_P D gC [(h0, .inr (1, [.ref hp, .null, .null, .null, .int 0, .int 0, .int 0, .int 0, .int 0, .int 0])), (hp, .inl (cP, 4, .inr (.inr (.inr (.inr (va_up (fun _ => none) 0 (some p0))))))), (p0, .inr (0, [.int 0, .int 0, .int 0, .int 0])), (p1, .inr (0, [.int 0, .int 0, .int 0, .int 0]))] H := hP
      have hD : va_D A [(h0, .inr (1, [.ref hp, .null, .null, .null, .int 0, .int 0, .int 0, .int 0, .int 0, .int 0])), (hp, .inl (cP, 4, .inr (.inr (.inr (.inr (va_up (fun _ => none) 0 (some p0))))))), (p0, .inr (0, [.int 0, .int 0, .int 0, .int 0])), (p1, .inr (0, [.int 0, .int 0, .int 0, .int 0]))] := hD
      refine W.widen (k := 3) (n := 12) (by decide) (by decide) ?_
      refine lv_dup hx hb dNr_init_27 rfl ?_
      have hFc := va_free (wc := ptW p1 (0, 0, 0, 0)) hD hS hA [3] rfl
      have hPc : va_P D gC (ptW p1 (0, 0, 0, 0)) H := hP.sub [3] rfl
      have hDc : va_D A (ptW p1 (0, 0, 0, 0)) := hD.sub [3] rfl rfl
      refine va_callv (va_runIN (host := "NurseryRow") (As := []) (rest := [.ref p1, .int 1, .ref hp]) ⟨hx, hb, hml, hown, hts⟩ (qPt_init l D _ p1 (0, 0, 0, 0) H.size) ⟨va_cnB 0 hts (fun w h => by rcases List.mem_cons.mp h with h | h; rw [h]; exact gm_self _ k_Pt_init; exact gm_self _ h) rfl rfl rfl hNw (hg _ z_Pt) n_Pt_init.2 ⟨by decide, by decide⟩, rfl, hg _ ki_Pt_init⟩ ⟨gx_blind, gx_pre hPc hK hDc⟩ rfl rfl hl.1 rfl (lv_room (Nat.le_of_ble_eq_true rfl)) dNr_init_28 ⟨by decide, by decide⟩) hS (fun q _ h => hFc q h) hFc (fun u t H1 locs ht hvm hw hB hz1 hk1 hS => ?_)
      obtain ⟨hP1, hK1, hD1⟩ := hB
      subst hw
      rw [ht] at hP1
      obtain ⟨hP, hD⟩ := va_join (wr := [(h0, .inr (1, [.ref hp, .null, .null, .null, .int 0, .int 0, .int 0, .int 0, .int 0, .int 0])), (hp, .inl (cP, 4, .inr (.inr (.inr (.inr (va_up (fun _ => none) 0 (some p0))))))), (p0, .inr (0, [.int 0, .int 0, .int 0, .int 0]))]) (w1 := ptW p1 (0, 0, 0, 0)) hP hD [3] [0, 1, 2] rfl rfl (by decide) (by decide) hk1 hFc hP1 hD1
      generalize H1 = H at hP hS ⊢
      have hP : va_P D gC [(h0, .inr (1, [.ref hp, .null, .null, .null, .int 0, .int 0, .int 0, .int 0, .int 0, .int 0])), (hp, .inl (cP, 4, .inr (.inr (.inr (.inr (va_up (fun _ => none) 0 (some p0))))))), (p0, .inr (0, [.int 0, .int 0, .int 0, .int 0])), (p1, .inr (0, [.int 0, .int 0, .int 0, .int 0]))] H := hP
      have hD : va_D A [(h0, .inr (1, [.ref hp, .null, .null, .null, .int 0, .int 0, .int 0, .int 0, .int 0, .int 0])), (hp, .inl (cP, 4, .inr (.inr (.inr (.inr (va_up (fun _ => none) 0 (some p0))))))), (p0, .inr (0, [.int 0, .int 0, .int 0, .int 0])), (p1, .inr (0, [.int 0, .int 0, .int 0, .int 0]))] := hD
      refine W.widen (k := 3) (n := 12) (by decide) (by decide) ?_
      refine va_astq hx hb hK hP hD hS 1 0 3 0 rfl rfl rfl rfl (by unfold vp_in; decide) dNr_init_31 (fun H locs hP hD hS => ?_)
      have hP : va_P D gC [(h0, .inr (1, [.ref hp, .null, .null, .null, .int 0, .int 0, .int 0, .int 0, .int 0, .int 0])), (hp, .inl (cP, 4, .inr (.inr (.inr (.inr (va_up (va_up (fun _ => none) 0 (some p0)) 1 (some p1))))))), (p0, .inr (0, [.int 0, .int 0, .int 0, .int 0])), (p1, .inr (0, [.int 0, .int 0, .int 0, .int 0]))] H := hP
      have hD : va_D A [(h0, .inr (1, [.ref hp, .null, .null, .null, .int 0, .int 0, .int 0, .int 0, .int 0, .int 0])), (hp, .inl (cP, 4, .inr (.inr (.inr (.inr (va_up (va_up (fun _ => none) 0 (some p0)) 1 (some p1))))))), (p0, .inr (0, [.int 0, .int 0, .int 0, .int 0])), (p1, .inr (0, [.int 0, .int 0, .int 0, .int 0]))] := hD
      refine lv_iinc (v := 2) (lv' := [(1, .int 2), (0, .ref h0)]) hx hb dNr_init_32 hl (k := 0) rfl (by decide) (by decide) rfl (fun ls hl => ?_)
      refine lv_goto (tgt := 14) hx hb dNr_init_35 (by decide) ?_
      refine lv_iload_n hx hb dNr_init_14 rfl (lv_at hl 0 rfl) ?_
      refine lv_iconst (v := 4) hx hb dNr_init_15 (by decide) ?_
      refine lv_icmp_ge (tgt := 38) hx hb dNr_init_16 (by decide) (fun c_16'' => ?_) (fun c_16'' => ?_)
      · exact absurd c_16'' (by decide)
      · refine lv_aload_n hx hb dNr_init_19 rfl (lv_at hl 1 rfl) ?_
        refine va_get (C := RNr) (T := TNr) (N := 10) (ci := 1) (v := .ref hp) hx hb hg inNr hown hK hP 0 rfl rfl 0 (by decide) (hg _ f_Nr_11) (fun _ h9 => h9) rfl dNr_init_20 ?_
        refine lv_iload_n hx hb dNr_init_23 rfl (lv_at hl 0 rfl) ?_
        refine va_new (C := RPt) (T := TPt) (N := 4) (ci := 0) (fs := [.int 0, .int 0, .int 0, .int 0]) hx hb hg inPt tyPt tyPt_ok hown (hg _ kl_Nr_9) (hg _ kn_Pt) (hg _ z_Pt) hK hP hD hS hA rfl (fun j hj => by rcases (show j = 0 ∨ j = 1 ∨ j = 2 ∨ j = 3 by omega) with rfl | rfl | rfl | rfl <;> rfl) (by decide) (by decide) dNr_init_24 (fun p2 H hP hD hS => ?_)
        have hP : va_P D gC [(h0, .inr (1, [.ref hp, .null, .null, .null, .int 0, .int 0, .int 0, .int 0, .int 0, .int 0])), (hp, .inl (cP, 4, .inr (.inr (.inr (.inr (va_up (va_up (fun _ => none) 0 (some p0)) 1 (some p1))))))), (p0, .inr (0, [.int 0, .int 0, .int 0, .int 0])), (p1, .inr (0, [.int 0, .int 0, .int 0, .int 0])), (p2, .inr (0, [.int 0, .int 0, .int 0, .int 0]))] H := hP
        have hD : va_D A [(h0, .inr (1, [.ref hp, .null, .null, .null, .int 0, .int 0, .int 0, .int 0, .int 0, .int 0])), (hp, .inl (cP, 4, .inr (.inr (.inr (.inr (va_up (va_up (fun _ => none) 0 (some p0)) 1 (some p1))))))), (p0, .inr (0, [.int 0, .int 0, .int 0, .int 0])), (p1, .inr (0, [.int 0, .int 0, .int 0, .int 0])), (p2, .inr (0, [.int 0, .int 0, .int 0, .int 0]))] := hD
        refine W.widen (k := 4) (n := 16) (by decide) (by decide) ?_
        refine lv_dup hx hb dNr_init_27 rfl ?_
        have hFc := va_free (wc := ptW p2 (0, 0, 0, 0)) hD hS hA [4] rfl
        have hPc : va_P D gC (ptW p2 (0, 0, 0, 0)) H := hP.sub [4] rfl
        have hDc : va_D A (ptW p2 (0, 0, 0, 0)) := hD.sub [4] rfl rfl
        refine va_callv (va_runIN (host := "NurseryRow") (As := []) (rest := [.ref p2, .int 2, .ref hp]) ⟨hx, hb, hml, hown, hts⟩ (qPt_init l D _ p2 (0, 0, 0, 0) H.size) ⟨va_cnB 0 hts (fun w h => by rcases List.mem_cons.mp h with h | h; rw [h]; exact gm_self _ k_Pt_init; exact gm_self _ h) rfl rfl rfl hNw (hg _ z_Pt) n_Pt_init.2 ⟨by decide, by decide⟩, rfl, hg _ ki_Pt_init⟩ ⟨gx_blind, gx_pre hPc hK hDc⟩ rfl rfl hl.1 rfl (lv_room (Nat.le_of_ble_eq_true rfl)) dNr_init_28 ⟨by decide, by decide⟩) hS (fun q _ h => hFc q h) hFc (fun u t H1 locs ht hvm hw hB hz1 hk1 hS => ?_)
        obtain ⟨hP1, hK1, hD1⟩ := hB
        subst hw
        rw [ht] at hP1
        obtain ⟨hP, hD⟩ := va_join (wr := [(h0, .inr (1, [.ref hp, .null, .null, .null, .int 0, .int 0, .int 0, .int 0, .int 0, .int 0])), (hp, .inl (cP, 4, .inr (.inr (.inr (.inr (va_up (va_up (fun _ => none) 0 (some p0)) 1 (some p1))))))), (p0, .inr (0, [.int 0, .int 0, .int 0, .int 0])), (p1, .inr (0, [.int 0, .int 0, .int 0, .int 0]))]) (w1 := ptW p2 (0, 0, 0, 0)) hP hD [4] [0, 1, 2, 3] rfl rfl (by decide) (by decide) hk1 hFc hP1 hD1
        generalize H1 = H at hP hS ⊢
        have hP : va_P D gC [(h0, .inr (1, [.ref hp, .null, .null, .null, .int 0, .int 0, .int 0, .int 0, .int 0, .int 0])), (hp, .inl (cP, 4, .inr (.inr (.inr (.inr (va_up (va_up (fun _ => none) 0 (some p0)) 1 (some p1))))))), (p0, .inr (0, [.int 0, .int 0, .int 0, .int 0])), (p1, .inr (0, [.int 0, .int 0, .int 0, .int 0])), (p2, .inr (0, [.int 0, .int 0, .int 0, .int 0]))] H := hP
        have hD : va_D A [(h0, .inr (1, [.ref hp, .null, .null, .null, .int 0, .int 0, .int 0, .int 0, .int 0, .int 0])), (hp, .inl (cP, 4, .inr (.inr (.inr (.inr (va_up (va_up (fun _ => none) 0 (some p0)) 1 (some p1))))))), (p0, .inr (0, [.int 0, .int 0, .int 0, .int 0])), (p1, .inr (0, [.int 0, .int 0, .int 0, .int 0])), (p2, .inr (0, [.int 0, .int 0, .int 0, .int 0]))] := hD
        refine W.widen (k := 4) (n := 16) (by decide) (by decide) ?_
        refine va_astq hx hb hK hP hD hS 1 0 4 0 rfl rfl rfl rfl (by unfold vp_in; decide) dNr_init_31 (fun H locs hP hD hS => ?_)
        have hP : va_P D gC [(h0, .inr (1, [.ref hp, .null, .null, .null, .int 0, .int 0, .int 0, .int 0, .int 0, .int 0])), (hp, .inl (cP, 4, .inr (.inr (.inr (.inr (va_up (va_up (va_up (fun _ => none) 0 (some p0)) 1 (some p1)) 2 (some p2))))))), (p0, .inr (0, [.int 0, .int 0, .int 0, .int 0])), (p1, .inr (0, [.int 0, .int 0, .int 0, .int 0])), (p2, .inr (0, [.int 0, .int 0, .int 0, .int 0]))] H := hP
        have hD : va_D A [(h0, .inr (1, [.ref hp, .null, .null, .null, .int 0, .int 0, .int 0, .int 0, .int 0, .int 0])), (hp, .inl (cP, 4, .inr (.inr (.inr (.inr (va_up (va_up (va_up (fun _ => none) 0 (some p0)) 1 (some p1)) 2 (some p2))))))), (p0, .inr (0, [.int 0, .int 0, .int 0, .int 0])), (p1, .inr (0, [.int 0, .int 0, .int 0, .int 0])), (p2, .inr (0, [.int 0, .int 0, .int 0, .int 0]))] := hD
        refine lv_iinc (v := 3) (lv' := [(1, .int 3), (0, .ref h0)]) hx hb dNr_init_32 hl (k := 0) rfl (by decide) (by decide) rfl (fun ls hl => ?_)
        refine lv_goto (tgt := 14) hx hb dNr_init_35 (by decide) ?_
        refine lv_iload_n hx hb dNr_init_14 rfl (lv_at hl 0 rfl) ?_
        refine lv_iconst (v := 4) hx hb dNr_init_15 (by decide) ?_
        refine lv_icmp_ge (tgt := 38) hx hb dNr_init_16 (by decide) (fun c_16''' => ?_) (fun c_16''' => ?_)
        · exact absurd c_16''' (by decide)
        · refine lv_aload_n hx hb dNr_init_19 rfl (lv_at hl 1 rfl) ?_
          refine va_get (C := RNr) (T := TNr) (N := 10) (ci := 1) (v := .ref hp) hx hb hg inNr hown hK hP 0 rfl rfl 0 (by decide) (hg _ f_Nr_11) (fun _ h9 => h9) rfl dNr_init_20 ?_
          refine lv_iload_n hx hb dNr_init_23 rfl (lv_at hl 0 rfl) ?_
          refine va_new (C := RPt) (T := TPt) (N := 4) (ci := 0) (fs := [.int 0, .int 0, .int 0, .int 0]) hx hb hg inPt tyPt tyPt_ok hown (hg _ kl_Nr_9) (hg _ kn_Pt) (hg _ z_Pt) hK hP hD hS hA rfl (fun j hj => by rcases (show j = 0 ∨ j = 1 ∨ j = 2 ∨ j = 3 by omega) with rfl | rfl | rfl | rfl <;> rfl) (by decide) (by decide) dNr_init_24 (fun p3 H hP hD hS => ?_)
          have hP : va_P D gC [(h0, .inr (1, [.ref hp, .null, .null, .null, .int 0, .int 0, .int 0, .int 0, .int 0, .int 0])), (hp, .inl (cP, 4, .inr (.inr (.inr (.inr (va_up (va_up (va_up (fun _ => none) 0 (some p0)) 1 (some p1)) 2 (some p2))))))), (p0, .inr (0, [.int 0, .int 0, .int 0, .int 0])), (p1, .inr (0, [.int 0, .int 0, .int 0, .int 0])), (p2, .inr (0, [.int 0, .int 0, .int 0, .int 0])), (p3, .inr (0, [.int 0, .int 0, .int 0, .int 0]))] H := hP
          have hD : va_D A [(h0, .inr (1, [.ref hp, .null, .null, .null, .int 0, .int 0, .int 0, .int 0, .int 0, .int 0])), (hp, .inl (cP, 4, .inr (.inr (.inr (.inr (va_up (va_up (va_up (fun _ => none) 0 (some p0)) 1 (some p1)) 2 (some p2))))))), (p0, .inr (0, [.int 0, .int 0, .int 0, .int 0])), (p1, .inr (0, [.int 0, .int 0, .int 0, .int 0])), (p2, .inr (0, [.int 0, .int 0, .int 0, .int 0])), (p3, .inr (0, [.int 0, .int 0, .int 0, .int 0]))] := hD
          refine W.widen (k := 5) (n := 20) (by decide) (by decide) ?_
          refine lv_dup hx hb dNr_init_27 rfl ?_
          have hFc := va_free (wc := ptW p3 (0, 0, 0, 0)) hD hS hA [5] rfl
          have hPc : va_P D gC (ptW p3 (0, 0, 0, 0)) H := hP.sub [5] rfl
          have hDc : va_D A (ptW p3 (0, 0, 0, 0)) := hD.sub [5] rfl rfl
          refine va_callv (va_runIN (host := "NurseryRow") (As := []) (rest := [.ref p3, .int 3, .ref hp]) ⟨hx, hb, hml, hown, hts⟩ (qPt_init l D _ p3 (0, 0, 0, 0) H.size) ⟨va_cnB 0 hts (fun w h => by rcases List.mem_cons.mp h with h | h; rw [h]; exact gm_self _ k_Pt_init; exact gm_self _ h) rfl rfl rfl hNw (hg _ z_Pt) n_Pt_init.2 ⟨by decide, by decide⟩, rfl, hg _ ki_Pt_init⟩ ⟨gx_blind, gx_pre hPc hK hDc⟩ rfl rfl hl.1 rfl (lv_room (Nat.le_of_ble_eq_true rfl)) dNr_init_28 ⟨by decide, by decide⟩) hS (fun q _ h => hFc q h) hFc (fun u t H1 locs ht hvm hw hB hz1 hk1 hS => ?_)
          obtain ⟨hP1, hK1, hD1⟩ := hB
          subst hw
          rw [ht] at hP1
          obtain ⟨hP, hD⟩ := va_join (wr := [(h0, .inr (1, [.ref hp, .null, .null, .null, .int 0, .int 0, .int 0, .int 0, .int 0, .int 0])), (hp, .inl (cP, 4, .inr (.inr (.inr (.inr (va_up (va_up (va_up (fun _ => none) 0 (some p0)) 1 (some p1)) 2 (some p2))))))), (p0, .inr (0, [.int 0, .int 0, .int 0, .int 0])), (p1, .inr (0, [.int 0, .int 0, .int 0, .int 0])), (p2, .inr (0, [.int 0, .int 0, .int 0, .int 0]))]) (w1 := ptW p3 (0, 0, 0, 0)) hP hD [5] [0, 1, 2, 3, 4] rfl rfl (by decide) (by decide) hk1 hFc hP1 hD1
          generalize H1 = H at hP hS ⊢
          have hP : va_P D gC [(h0, .inr (1, [.ref hp, .null, .null, .null, .int 0, .int 0, .int 0, .int 0, .int 0, .int 0])), (hp, .inl (cP, 4, .inr (.inr (.inr (.inr (va_up (va_up (va_up (fun _ => none) 0 (some p0)) 1 (some p1)) 2 (some p2))))))), (p0, .inr (0, [.int 0, .int 0, .int 0, .int 0])), (p1, .inr (0, [.int 0, .int 0, .int 0, .int 0])), (p2, .inr (0, [.int 0, .int 0, .int 0, .int 0])), (p3, .inr (0, [.int 0, .int 0, .int 0, .int 0]))] H := hP
          have hD : va_D A [(h0, .inr (1, [.ref hp, .null, .null, .null, .int 0, .int 0, .int 0, .int 0, .int 0, .int 0])), (hp, .inl (cP, 4, .inr (.inr (.inr (.inr (va_up (va_up (va_up (fun _ => none) 0 (some p0)) 1 (some p1)) 2 (some p2))))))), (p0, .inr (0, [.int 0, .int 0, .int 0, .int 0])), (p1, .inr (0, [.int 0, .int 0, .int 0, .int 0])), (p2, .inr (0, [.int 0, .int 0, .int 0, .int 0])), (p3, .inr (0, [.int 0, .int 0, .int 0, .int 0]))] := hD
          refine W.widen (k := 5) (n := 20) (by decide) (by decide) ?_
          refine va_astq hx hb hK hP hD hS 1 0 5 0 rfl rfl rfl rfl (by unfold vp_in; decide) dNr_init_31 (fun H locs hP hD hS => ?_)
          have hP : va_P D gC [(h0, .inr (1, [.ref hp, .null, .null, .null, .int 0, .int 0, .int 0, .int 0, .int 0, .int 0])), (hp, .inl (cP, 4, .inr (.inr (.inr (.inr (va_up (va_up (va_up (va_up (fun _ => none) 0 (some p0)) 1 (some p1)) 2 (some p2)) 3 (some p3))))))), (p0, .inr (0, [.int 0, .int 0, .int 0, .int 0])), (p1, .inr (0, [.int 0, .int 0, .int 0, .int 0])), (p2, .inr (0, [.int 0, .int 0, .int 0, .int 0])), (p3, .inr (0, [.int 0, .int 0, .int 0, .int 0]))] H := hP
          have hD : va_D A [(h0, .inr (1, [.ref hp, .null, .null, .null, .int 0, .int 0, .int 0, .int 0, .int 0, .int 0])), (hp, .inl (cP, 4, .inr (.inr (.inr (.inr (va_up (va_up (va_up (va_up (fun _ => none) 0 (some p0)) 1 (some p1)) 2 (some p2)) 3 (some p3))))))), (p0, .inr (0, [.int 0, .int 0, .int 0, .int 0])), (p1, .inr (0, [.int 0, .int 0, .int 0, .int 0])), (p2, .inr (0, [.int 0, .int 0, .int 0, .int 0])), (p3, .inr (0, [.int 0, .int 0, .int 0, .int 0]))] := hD
          refine lv_iinc (v := 4) (lv' := [(1, .int 4), (0, .ref h0)]) hx hb dNr_init_32 hl (k := 0) rfl (by decide) (by decide) rfl (fun ls hl => ?_)
          refine lv_goto (tgt := 14) hx hb dNr_init_35 (by decide) ?_
          refine lv_iload_n hx hb dNr_init_14 rfl (lv_at hl 0 rfl) ?_
          refine lv_iconst (v := 4) hx hb dNr_init_15 (by decide) ?_
          refine lv_icmp_ge (tgt := 38) hx hb dNr_init_16 (by decide) (fun c_16'''' => ?_) (fun c_16'''' => ?_)
          · refine lv_aload_n hx hb dNr_init_38 rfl (lv_at hl 1 rfl) ?_
            refine lv_bipush (v := 16) hx hb dNr_init_39 (by decide) ?_
            refine va_newa (atype := .int) (ty := .int) (N' := 16) (a0 := (16, .inl (fun _ => 0))) hx hb (hg _ ka_int) rfl hK hP hD hS hA (fun _ => rfl) (by decide) (by decide) (by decide) (by decide) (by decide) dNr_init_41 (fun hr6 cI H hK hP hD hS => ?_)
            have hK : va_K D gC [(cP, .object "NurseryRow$Part"), (cI, .int)] s := hK
            have hP : va_P D gC [(h0, .inr (1, [.ref hp, .null, .null, .null, .int 0, .int 0, .int 0, .int 0, .int 0, .int 0])), (hp, .inl (cP, 4, .inr (.inr (.inr (.inr (va_up (va_up (va_up (va_up (fun _ => none) 0 (some p0)) 1 (some p1)) 2 (some p2)) 3 (some p3))))))), (p0, .inr (0, [.int 0, .int 0, .int 0, .int 0])), (p1, .inr (0, [.int 0, .int 0, .int 0, .int 0])), (p2, .inr (0, [.int 0, .int 0, .int 0, .int 0])), (p3, .inr (0, [.int 0, .int 0, .int 0, .int 0])), (hr6, .inl (cI, 16, .inl (fun _ => 0)))] H := hP
            have hD : va_D A [(h0, .inr (1, [.ref hp, .null, .null, .null, .int 0, .int 0, .int 0, .int 0, .int 0, .int 0])), (hp, .inl (cP, 4, .inr (.inr (.inr (.inr (va_up (va_up (va_up (va_up (fun _ => none) 0 (some p0)) 1 (some p1)) 2 (some p2)) 3 (some p3))))))), (p0, .inr (0, [.int 0, .int 0, .int 0, .int 0])), (p1, .inr (0, [.int 0, .int 0, .int 0, .int 0])), (p2, .inr (0, [.int 0, .int 0, .int 0, .int 0])), (p3, .inr (0, [.int 0, .int 0, .int 0, .int 0])), (hr6, .inl (cI, 16, .inl (fun _ => 0)))] := hD
            refine W.widen (k := 6) (n := 36) (by decide) (by decide) ?_
            refine va_putF (C := RNr) (T := TNr) (N := 10) (ci := 1) (v := .ref hr6) hx hb hg inNr tyNr tyNr_ok nmNr hown hK hP hD hS 0 rfl rfl 1 (by decide) (hg _ f_Nr_16) (fun _ h9 => h9) rfl hnm rfl (tyNr_ok 1 (by decide)) rfl rfl (Nat.le_of_ble_eq_true rfl) dNr_init_43 (fun H locs hP hD hS => ?_)
            have hP : va_P D gC [(h0, .inr (1, [.ref hp, .ref hr6, .null, .null, .int 0, .int 0, .int 0, .int 0, .int 0, .int 0])), (hp, .inl (cP, 4, .inr (.inr (.inr (.inr (va_up (va_up (va_up (va_up (fun _ => none) 0 (some p0)) 1 (some p1)) 2 (some p2)) 3 (some p3))))))), (p0, .inr (0, [.int 0, .int 0, .int 0, .int 0])), (p1, .inr (0, [.int 0, .int 0, .int 0, .int 0])), (p2, .inr (0, [.int 0, .int 0, .int 0, .int 0])), (p3, .inr (0, [.int 0, .int 0, .int 0, .int 0])), (hr6, .inl (cI, 16, .inl (fun _ => 0)))] H := hP
            have hD : va_D A [(h0, .inr (1, [.ref hp, .ref hr6, .null, .null, .int 0, .int 0, .int 0, .int 0, .int 0, .int 0])), (hp, .inl (cP, 4, .inr (.inr (.inr (.inr (va_up (va_up (va_up (va_up (fun _ => none) 0 (some p0)) 1 (some p1)) 2 (some p2)) 3 (some p3))))))), (p0, .inr (0, [.int 0, .int 0, .int 0, .int 0])), (p1, .inr (0, [.int 0, .int 0, .int 0, .int 0])), (p2, .inr (0, [.int 0, .int 0, .int 0, .int 0])), (p3, .inr (0, [.int 0, .int 0, .int 0, .int 0])), (hr6, .inl (cI, 16, .inl (fun _ => 0)))] := hD
            refine lv_aload_n hx hb dNr_init_46 rfl (lv_at hl 1 rfl) ?_
            refine lv_sipush (v := 512) hx hb dNr_init_47 (by decide) ?_
            refine va_newa (atype := .int) (ty := .int) (N' := 512) (a0 := (512, .inl (fun _ => 0))) hx hb (hg _ ka_int) rfl hK hP hD hS hA (fun _ => rfl) (by decide) (by decide) (by decide) (by decide) (by decide) dNr_init_50 (fun hr7 cA H hK2 hP hD hS => ?_)
            have hcA := (gx_same (i := 1) (j := 2) hK2 rfl rfl)
            rw [hcA] at hP hD
            have hP : va_P D gC [(h0, .inr (1, [.ref hp, .ref hr6, .null, .null, .int 0, .int 0, .int 0, .int 0, .int 0, .int 0])), (hp, .inl (cP, 4, .inr (.inr (.inr (.inr (va_up (va_up (va_up (va_up (fun _ => none) 0 (some p0)) 1 (some p1)) 2 (some p2)) 3 (some p3))))))), (p0, .inr (0, [.int 0, .int 0, .int 0, .int 0])), (p1, .inr (0, [.int 0, .int 0, .int 0, .int 0])), (p2, .inr (0, [.int 0, .int 0, .int 0, .int 0])), (p3, .inr (0, [.int 0, .int 0, .int 0, .int 0])), (hr6, .inl (cI, 16, .inl (fun _ => 0))), (hr7, .inl (cI, 512, .inl (fun _ => 0)))] H := hP
            have hD : va_D A [(h0, .inr (1, [.ref hp, .ref hr6, .null, .null, .int 0, .int 0, .int 0, .int 0, .int 0, .int 0])), (hp, .inl (cP, 4, .inr (.inr (.inr (.inr (va_up (va_up (va_up (va_up (fun _ => none) 0 (some p0)) 1 (some p1)) 2 (some p2)) 3 (some p3))))))), (p0, .inr (0, [.int 0, .int 0, .int 0, .int 0])), (p1, .inr (0, [.int 0, .int 0, .int 0, .int 0])), (p2, .inr (0, [.int 0, .int 0, .int 0, .int 0])), (p3, .inr (0, [.int 0, .int 0, .int 0, .int 0])), (hr6, .inl (cI, 16, .inl (fun _ => 0))), (hr7, .inl (cI, 512, .inl (fun _ => 0)))] := hD
            refine W.widen (k := 7) (n := 548) (by decide) (by decide) ?_
            refine va_putF (C := RNr) (T := TNr) (N := 10) (ci := 1) (v := .ref hr7) hx hb hg inNr tyNr tyNr_ok nmNr hown hK hP hD hS 0 rfl rfl 2 (by decide) (hg _ f_Nr_20) (fun _ h9 => h9) rfl hnm rfl (tyNr_ok 2 (by decide)) rfl rfl (Nat.le_of_ble_eq_true rfl) dNr_init_52 (fun H locs hP hD hS => ?_)
            have hP : va_P D gC [(h0, .inr (1, [.ref hp, .ref hr6, .ref hr7, .null, .int 0, .int 0, .int 0, .int 0, .int 0, .int 0])), (hp, .inl (cP, 4, .inr (.inr (.inr (.inr (va_up (va_up (va_up (va_up (fun _ => none) 0 (some p0)) 1 (some p1)) 2 (some p2)) 3 (some p3))))))), (p0, .inr (0, [.int 0, .int 0, .int 0, .int 0])), (p1, .inr (0, [.int 0, .int 0, .int 0, .int 0])), (p2, .inr (0, [.int 0, .int 0, .int 0, .int 0])), (p3, .inr (0, [.int 0, .int 0, .int 0, .int 0])), (hr6, .inl (cI, 16, .inl (fun _ => 0))), (hr7, .inl (cI, 512, .inl (fun _ => 0)))] H := hP
            have hD : va_D A [(h0, .inr (1, [.ref hp, .ref hr6, .ref hr7, .null, .int 0, .int 0, .int 0, .int 0, .int 0, .int 0])), (hp, .inl (cP, 4, .inr (.inr (.inr (.inr (va_up (va_up (va_up (va_up (fun _ => none) 0 (some p0)) 1 (some p1)) 2 (some p2)) 3 (some p3))))))), (p0, .inr (0, [.int 0, .int 0, .int 0, .int 0])), (p1, .inr (0, [.int 0, .int 0, .int 0, .int 0])), (p2, .inr (0, [.int 0, .int 0, .int 0, .int 0])), (p3, .inr (0, [.int 0, .int 0, .int 0, .int 0])), (hr6, .inl (cI, 16, .inl (fun _ => 0))), (hr7, .inl (cI, 512, .inl (fun _ => 0)))] := hD
            refine lv_aload_n hx hb dNr_init_55 rfl (lv_at hl 1 rfl) ?_
            refine lv_sipush (v := 2433) hx hb dNr_init_56 (by decide) ?_
            refine va_newa (atype := .int) (ty := .int) (N' := 2433) (a0 := (2433, .inl (fun _ => 0))) hx hb (hg _ ka_int) rfl hK hP hD hS hA (fun _ => rfl) (by decide) (by decide) (by decide) (by decide) (by decide) dNr_init_59 (fun hx8 cA H hK2 hP hD hS => ?_)
            have hcA := (gx_same (i := 1) (j := 2) hK2 rfl rfl)
            rw [hcA] at hP hD
            have hP : va_P D gC [(h0, .inr (1, [.ref hp, .ref hr6, .ref hr7, .null, .int 0, .int 0, .int 0, .int 0, .int 0, .int 0])), (hp, .inl (cP, 4, .inr (.inr (.inr (.inr (va_up (va_up (va_up (va_up (fun _ => none) 0 (some p0)) 1 (some p1)) 2 (some p2)) 3 (some p3))))))), (p0, .inr (0, [.int 0, .int 0, .int 0, .int 0])), (p1, .inr (0, [.int 0, .int 0, .int 0, .int 0])), (p2, .inr (0, [.int 0, .int 0, .int 0, .int 0])), (p3, .inr (0, [.int 0, .int 0, .int 0, .int 0])), (hr6, .inl (cI, 16, .inl (fun _ => 0))), (hr7, .inl (cI, 512, .inl (fun _ => 0))), (hx8, .inl (cI, 2433, .inl (fun _ => 0)))] H := hP
            have hD : va_D A [(h0, .inr (1, [.ref hp, .ref hr6, .ref hr7, .null, .int 0, .int 0, .int 0, .int 0, .int 0, .int 0])), (hp, .inl (cP, 4, .inr (.inr (.inr (.inr (va_up (va_up (va_up (va_up (fun _ => none) 0 (some p0)) 1 (some p1)) 2 (some p2)) 3 (some p3))))))), (p0, .inr (0, [.int 0, .int 0, .int 0, .int 0])), (p1, .inr (0, [.int 0, .int 0, .int 0, .int 0])), (p2, .inr (0, [.int 0, .int 0, .int 0, .int 0])), (p3, .inr (0, [.int 0, .int 0, .int 0, .int 0])), (hr6, .inl (cI, 16, .inl (fun _ => 0))), (hr7, .inl (cI, 512, .inl (fun _ => 0))), (hx8, .inl (cI, 2433, .inl (fun _ => 0)))] := hD
            refine W.widen (k := 8) (n := 2981) (by decide) (by decide) ?_
            refine va_put (C := RNr) (T := TNr) (N := 10) (ci := 1) (v := .ref hx8) hx hb hg inNr tyNr tyNr_ok nmNr hown hK hP hD hS 0 rfl rfl 3 (by decide) (hg _ f_Nr_23) (fun _ h9 => h9) rfl (tyNr_ok 3 (by decide)) rfl rfl (Nat.le_of_ble_eq_true rfl) dNr_init_61 (fun H locs hP hD hS => ?_)
            have hP : va_P D gC [(h0, .inr (1, [.ref hp, .ref hr6, .ref hr7, .ref hx8, .int 0, .int 0, .int 0, .int 0, .int 0, .int 0])), (hp, .inl (cP, 4, .inr (.inr (.inr (.inr (va_up (va_up (va_up (va_up (fun _ => none) 0 (some p0)) 1 (some p1)) 2 (some p2)) 3 (some p3))))))), (p0, .inr (0, [.int 0, .int 0, .int 0, .int 0])), (p1, .inr (0, [.int 0, .int 0, .int 0, .int 0])), (p2, .inr (0, [.int 0, .int 0, .int 0, .int 0])), (p3, .inr (0, [.int 0, .int 0, .int 0, .int 0])), (hr6, .inl (cI, 16, .inl (fun _ => 0))), (hr7, .inl (cI, 512, .inl (fun _ => 0))), (hx8, .inl (cI, 2433, .inl (fun _ => 0)))] H := hP
            have hD : va_D A [(h0, .inr (1, [.ref hp, .ref hr6, .ref hr7, .ref hx8, .int 0, .int 0, .int 0, .int 0, .int 0, .int 0])), (hp, .inl (cP, 4, .inr (.inr (.inr (.inr (va_up (va_up (va_up (va_up (fun _ => none) 0 (some p0)) 1 (some p1)) 2 (some p2)) 3 (some p3))))))), (p0, .inr (0, [.int 0, .int 0, .int 0, .int 0])), (p1, .inr (0, [.int 0, .int 0, .int 0, .int 0])), (p2, .inr (0, [.int 0, .int 0, .int 0, .int 0])), (p3, .inr (0, [.int 0, .int 0, .int 0, .int 0])), (hr6, .inl (cI, 16, .inl (fun _ => 0))), (hr7, .inl (cI, 512, .inl (fun _ => 0))), (hx8, .inl (cI, 2433, .inl (fun _ => 0)))] := hD
            refine lv_aload_n hx hb dNr_init_64 rfl (lv_at hl 1 rfl) ?_
            refine lv_iconst (v := 3) hx hb dNr_init_65 (by decide) ?_
            refine va_put (C := RNr) (T := TNr) (N := 10) (ci := 1) (v := .int 3) hx hb hg inNr tyNr tyNr_ok nmNr hown hK hP hD hS 0 rfl rfl 5 (by decide) (hg _ f_Nr_26) (fun _ h9 => h9) rfl (tyNr_ok 5 (by decide)) rfl rfl (Nat.le_of_ble_eq_true rfl) dNr_init_66 (fun H locs hP hD hS => ?_)
            have hP : va_P D gC [(h0, .inr (1, [.ref hp, .ref hr6, .ref hr7, .ref hx8, .int 0, .int 3, .int 0, .int 0, .int 0, .int 0])), (hp, .inl (cP, 4, .inr (.inr (.inr (.inr (va_up (va_up (va_up (va_up (fun _ => none) 0 (some p0)) 1 (some p1)) 2 (some p2)) 3 (some p3))))))), (p0, .inr (0, [.int 0, .int 0, .int 0, .int 0])), (p1, .inr (0, [.int 0, .int 0, .int 0, .int 0])), (p2, .inr (0, [.int 0, .int 0, .int 0, .int 0])), (p3, .inr (0, [.int 0, .int 0, .int 0, .int 0])), (hr6, .inl (cI, 16, .inl (fun _ => 0))), (hr7, .inl (cI, 512, .inl (fun _ => 0))), (hx8, .inl (cI, 2433, .inl (fun _ => 0)))] H := hP
            have hD : va_D A [(h0, .inr (1, [.ref hp, .ref hr6, .ref hr7, .ref hx8, .int 0, .int 3, .int 0, .int 0, .int 0, .int 0])), (hp, .inl (cP, 4, .inr (.inr (.inr (.inr (va_up (va_up (va_up (va_up (fun _ => none) 0 (some p0)) 1 (some p1)) 2 (some p2)) 3 (some p3))))))), (p0, .inr (0, [.int 0, .int 0, .int 0, .int 0])), (p1, .inr (0, [.int 0, .int 0, .int 0, .int 0])), (p2, .inr (0, [.int 0, .int 0, .int 0, .int 0])), (p3, .inr (0, [.int 0, .int 0, .int 0, .int 0])), (hr6, .inl (cI, 16, .inl (fun _ => 0))), (hr7, .inl (cI, 512, .inl (fun _ => 0))), (hx8, .inl (cI, 2433, .inl (fun _ => 0)))] := hD
            refine lv_aload_n hx hb dNr_init_69 rfl (lv_at hl 1 rfl) ?_
            refine lv_sipush (v := 256) hx hb dNr_init_70 (by decide) ?_
            refine lv_bipush (v := 64) hx hb dNr_init_73 (by decide) ?_
            refine lv_sipush (v := 2048) hx hb dNr_init_75 (by decide) ?_
            have hK : va_K D gC (nrT cI cP) s := hK.sub [1, 0] rfl
            have hP : va_P D gC (nrW cI cP (ad8 h0 hp p0 p1 p2 p3 hr6 hr7) (nrS1 hx8)) H := gx_refs (k := 1) hP hD rfl (fun j hj => by rcases (show j = 0 ∨ j = 1 ∨ j = 2 ∨ j = 3 by omega) with rfl | rfl | rfl | rfl <;> rfl)
            have hD : va_D A (nrW cI cP (ad8 h0 hp p0 p1 p2 p3 hr6 hr7) (nrS1 hx8)) := hD.set (p := 1) (e := .inl (cP, 4, .inr (.inr (.inr (.inr (fun j => some (ad8 h0 hp p0 p1 p2 p3 hr6 hr7 (2 + j)))))))) rfl
            refine gx_callv (C := "NurseryRow") (As := [.int 256, .int 64, .int 2048]) (rest := []) E (qNr_layParts l D cI cP (ad8 h0 hp p0 p1 p2 p3 hr6 hr7) (nrS1 hx8) 256 64 2048) (gx_cwV hts l_Nr_30 k_Nr_layParts ki_Nr_layParts ke_Nr_layParts z_Nr n_Nr_layParts ⟨by decide, by decide⟩) hK hP hD hS hA (va_recv hK hP (ci := 1) (q0 := 0) rfl rfl) hl.1 rfl rfl (Nat.le_of_ble_eq_true rfl) ⟨by decide, by decide⟩ dNr_init_78 (fun u H locs hq hP hD hS => ?_)
            have hq : u = nrS0 hx8 := hq
            subst hq
            exact W.vret hx hb hr (fun t ht hW => ⟨⟨(cI, cP, ad8 h0 hp p0 p1 p2 p3 hr6 hr7, nrS0 hx8), rfl, ⟨rfl, rfl⟩, by rw [ht]; exact hP, va_K.moved hW.alike hK, hD⟩, hS.F ht⟩) hS.2.2 dNr_init_81 (hlocks := hlocks)
          · exact absurd c_16'''' (by decide)
