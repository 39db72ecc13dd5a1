/-! THE CLASS, what it asks of its cells -/
set_option maxHeartbeats 4000000 in
set_option maxRecDepth 100000 in
/-- the first object from part i on -/
theorem qNr_firstFrom (l : Launch) (D : va_G) (cI cP : ClassId) (a : Nat → Nat) (σ : nSt) (i : Nat) (hi : i ≤ 4) : gx_Mp l yNr_firstFrom (Cond.code yNr_firstFrom cNr_firstFrom 3 (some .int) :: gW) (gR 0) D gC (nrT cI cP) (nrW cI cP a σ) [.ref (a 0), .int (nI i)] (fF σ i) := by
  refine gx_Mp.of (cc := cNr_firstFrom) (maxL := 3) (ret := (some .int)) (by decide) rfl (Nat.le_of_ble_eq_true rfl) ?_
  intro p e s m args below meth c ls E hK hP hD hl
  obtain ⟨hx, hb, hr, hml, hts, hown, hlocks, hnm⟩ := id E
  have hg : ∀ w ∈ gW, w.before args s = true := fun w h => hts w (List.mem_cons_of_mem _ h)
  have hown : s.vm.findClass "NurseryRow" = some m.cls := hown
  have hl : lv_has ls 3 [(0, .ref (a 0)), (1, .int (nI i))] := hl
  rcases (show i = 0 ∨ i = 1 ∨ i = 2 ∨ i = 3 ∨ i = 4 by omega) with rfl | rfl | rfl | rfl | rfl
  · have hl : lv_has ls 3 [(0, .ref (a 0)), (1, .int 0)] := hl
    refine lv_iload_n hx hb dNr_firstFrom_0 rfl (lv_at hl 1 rfl) ?_
    refine lv_istore_n (lv' := [(2, .int 0), (0, .ref (a 0)), (1, .int 0)]) hx hb dNr_firstFrom_1 rfl hl (by decide) rfl (fun ls hl => ?_)
    refine lv_iload_n hx hb dNr_firstFrom_2 rfl (lv_at hl 0 rfl) ?_
    refine lv_iconst (v := 4) hx hb dNr_firstFrom_3 (by decide) ?_
    refine lv_icmp_ge (tgt := 35) hx hb dNr_firstFrom_4 (by decide) (fun c_4 => ?_) (fun c_4 => ?_)
    · exact absurd c_4 (by decide)
    · refine lv_aload_n hx hb dNr_firstFrom_7 rfl (lv_at hl 1 rfl) ?_
      refine va_get (C := RNr) (T := TNr) (N := 10) (ci := 1) (v := .ref (a 1)) hx hb hg inNr hown hK hP 0 rfl rfl 0 (by decide) (hg _ f_Nr_11) (fun _ h9 => h9) rfl dNr_firstFrom_8 ?_
      refine lv_iload_n hx hb dNr_firstFrom_11 rfl (lv_at hl 0 rfl) ?_
      refine va_aldq hx hb hK hP 1 1 rfl rfl (by unfold vp_in; decide) dNr_firstFrom_12 ?_
      refine gx_stk (st' := [.ref (a (2 + 0))]) rfl ?_
      refine va_get (C := RPt) (T := TPt) (N := 4) (ci := 0) (v := .int (σ.P 0 3)) hx hb hg inPt hown hK hP 2 rfl rfl 3 (by decide) (hg _ f_Nr_120) (fun _ h9 => h9) rfl dNr_firstFrom_13 ?_
      refine lv_if_le (tgt := 29) hx hb dNr_firstFrom_16 (by decide) (fun c_16 => ?_) (fun c_16 => ?_)
      · refine lv_iinc (v := 1) (lv' := [(2, .int 1), (0, .ref (a 0)), (1, .int 0)]) hx hb dNr_firstFrom_29 hl (k := 0) rfl (by decide) (by decide) rfl (fun ls hl => ?_)
        refine lv_goto (tgt := 2) hx hb dNr_firstFrom_32 (by decide) ?_
        refine lv_iload_n hx hb dNr_firstFrom_2 rfl (lv_at hl 0 rfl) ?_
        refine lv_iconst (v := 4) hx hb dNr_firstFrom_3 (by decide) ?_
        refine lv_icmp_ge (tgt := 35) hx hb dNr_firstFrom_4 (by decide) (fun c_4' => ?_) (fun c_4' => ?_)
        · exact absurd c_4' (by decide)
        · refine lv_aload_n hx hb dNr_firstFrom_7 rfl (lv_at hl 1 rfl) ?_
          refine va_get (C := RNr) (T := TNr) (N := 10) (ci := 1) (v := .ref (a 1)) hx hb hg inNr hown hK hP 0 rfl rfl 0 (by decide) (hg _ f_Nr_11) (fun _ h9 => h9) rfl dNr_firstFrom_8 ?_
          refine lv_iload_n hx hb dNr_firstFrom_11 rfl (lv_at hl 0 rfl) ?_
          refine va_aldq hx hb hK hP 1 1 rfl rfl (by unfold vp_in; decide) dNr_firstFrom_12 ?_
          refine gx_stk (st' := [.ref (a (2 + 1))]) rfl ?_
          refine va_get (C := RPt) (T := TPt) (N := 4) (ci := 0) (v := .int (σ.P 1 3)) hx hb hg inPt hown hK hP 3 rfl rfl 3 (by decide) (hg _ f_Nr_120) (fun _ h9 => h9) rfl dNr_firstFrom_13 ?_
          refine lv_if_le (tgt := 29) hx hb dNr_firstFrom_16 (by decide) (fun c_16' => ?_) (fun c_16' => ?_)
          · refine lv_iinc (v := 2) (lv' := [(2, .int 2), (0, .ref (a 0)), (1, .int 0)]) hx hb dNr_firstFrom_29 hl (k := 0) rfl (by decide) (by decide) rfl (fun ls hl => ?_)
            refine lv_goto (tgt := 2) hx hb dNr_firstFrom_32 (by decide) ?_
            refine lv_iload_n hx hb dNr_firstFrom_2 rfl (lv_at hl 0 rfl) ?_
            refine lv_iconst (v := 4) hx hb dNr_firstFrom_3 (by decide) ?_
            refine lv_icmp_ge (tgt := 35) hx hb dNr_firstFrom_4 (by decide) (fun c_4'' => ?_) (fun c_4'' => ?_)
            · exact absurd c_4'' (by decide)
            · refine lv_aload_n hx hb dNr_firstFrom_7 rfl (lv_at hl 1 rfl) ?_
              refine va_get (C := RNr) (T := TNr) (N := 10) (ci := 1) (v := .ref (a 1)) hx hb hg inNr hown hK hP 0 rfl rfl 0 (by decide) (hg _ f_Nr_11) (fun _ h9 => h9) rfl dNr_firstFrom_8 ?_
              refine lv_iload_n hx hb dNr_firstFrom_11 rfl (lv_at hl 0 rfl) ?_
              refine va_aldq hx hb hK hP 1 1 rfl rfl (by unfold vp_in; decide) dNr_firstFrom_12 ?_
              refine gx_stk (st' := [.ref (a (2 + 2))]) rfl ?_
              refine va_get (C := RPt) (T := TPt) (N := 4) (ci := 0) (v := .int (σ.P 2 3)) hx hb hg inPt hown hK hP 4 rfl rfl 3 (by decide) (hg _ f_Nr_120) (fun _ h9 => h9) rfl dNr_firstFrom_13 ?_
              refine lv_if_le (tgt := 29) hx hb dNr_firstFrom_16 (by decide) (fun c_16'' => ?_) (fun c_16'' => ?_)
              · refine lv_iinc (v := 3) (lv' := [(2, .int 3), (0, .ref (a 0)), (1, .int 0)]) hx hb dNr_firstFrom_29 hl (k := 0) rfl (by decide) (by decide) rfl (fun ls hl => ?_)
                refine lv_goto (tgt := 2) hx hb dNr_firstFrom_32 (by decide) ?_
                refine lv_iload_n hx hb dNr_firstFrom_2 rfl (lv_at hl 0 rfl) ?_
                refine lv_iconst (v := 4) hx hb dNr_firstFrom_3 (by decide) ?_
                refine lv_icmp_ge (tgt := 35) hx hb dNr_firstFrom_4 (by decide) (fun c_4''' => ?_) (fun c_4''' => ?_)
                · exact absurd c_4''' (by decide)
                · refine lv_aload_n hx hb dNr_firstFrom_7 rfl (lv_at hl 1 rfl) ?_
                  refine va_get (C := RNr) (T := TNr) (N := 10) (ci := 1) (v := .ref (a 1)) hx hb hg inNr hown hK hP 0 rfl rfl 0 (by decide) (hg _ f_Nr_11) (fun _ h9 => h9) rfl dNr_firstFrom_8 ?_
                  refine lv_iload_n hx hb dNr_firstFrom_11 rfl (lv_at hl 0 rfl) ?_
                  refine va_aldq hx hb hK hP 1 1 rfl rfl (by unfold vp_in; decide) dNr_firstFrom_12 ?_
                  refine gx_stk (st' := [.ref (a (2 + 3))]) rfl ?_
                  refine va_get (C := RPt) (T := TPt) (N := 4) (ci := 0) (v := .int (σ.P 3 3)) hx hb hg inPt hown hK hP 5 rfl rfl 3 (by decide) (hg _ f_Nr_120) (fun _ h9 => h9) rfl dNr_firstFrom_13 ?_
                  refine lv_if_le (tgt := 29) hx hb dNr_firstFrom_16 (by decide) (fun c_16''' => ?_) (fun c_16''' => ?_)
                  · refine lv_iinc (v := 4) (lv' := [(2, .int 4), (0, .ref (a 0)), (1, .int 0)]) hx hb dNr_firstFrom_29 hl (k := 0) rfl (by decide) (by decide) rfl (fun ls hl => ?_)
                    refine lv_goto (tgt := 2) hx hb dNr_firstFrom_32 (by decide) ?_
                    refine lv_iload_n hx hb dNr_firstFrom_2 rfl (lv_at hl 0 rfl) ?_
                    refine lv_iconst (v := 4) hx hb dNr_firstFrom_3 (by decide) ?_
                    refine lv_icmp_ge (tgt := 35) hx hb dNr_firstFrom_4 (by decide) (fun c_4'''' => ?_) (fun c_4'''' => ?_)
                    · refine lv_iconst (v := 0) hx hb dNr_firstFrom_35 (by decide) ?_
                      exact gx_pret E (by simp [fF, c_4, c_16, c_4', c_16', c_4'', c_16'', c_4''', c_16''', c_4'''']) dNr_firstFrom_36
                    · exact absurd c_4'''' (by decide)
                  · refine lv_aload_n hx hb dNr_firstFrom_19 rfl (lv_at hl 1 rfl) ?_
                    refine va_get (C := RNr) (T := TNr) (N := 10) (ci := 1) (v := .ref (a 1)) hx hb hg inNr hown hK hP 0 rfl rfl 0 (by decide) (hg _ f_Nr_11) (fun _ h9 => h9) rfl dNr_firstFrom_20 ?_
                    refine lv_iload_n hx hb dNr_firstFrom_23 rfl (lv_at hl 0 rfl) ?_
                    refine va_aldq hx hb hK hP 1 1 rfl rfl (by unfold vp_in; decide) dNr_firstFrom_24 ?_
                    refine gx_stk (st' := [.ref (a (2 + 3))]) rfl ?_
                    refine va_get (C := RPt) (T := TPt) (N := 4) (ci := 0) (v := .int (σ.P 3 0)) hx hb hg inPt hown hK hP 5 rfl rfl 0 (by decide) (hg _ f_Nr_164) (fun _ h9 => h9) rfl dNr_firstFrom_25 ?_
                    exact gx_pret E (by simp [fF, c_4, c_16, c_4', c_16', c_4'', c_16'', c_4''', c_16''']) dNr_firstFrom_28
              · refine lv_aload_n hx hb dNr_firstFrom_19 rfl (lv_at hl 1 rfl) ?_
                refine va_get (C := RNr) (T := TNr) (N := 10) (ci := 1) (v := .ref (a 1)) hx hb hg inNr hown hK hP 0 rfl rfl 0 (by decide) (hg _ f_Nr_11) (fun _ h9 => h9) rfl dNr_firstFrom_20 ?_
                refine lv_iload_n hx hb dNr_firstFrom_23 rfl (lv_at hl 0 rfl) ?_
                refine va_aldq hx hb hK hP 1 1 rfl rfl (by unfold vp_in; decide) dNr_firstFrom_24 ?_
                refine gx_stk (st' := [.ref (a (2 + 2))]) rfl ?_
                refine va_get (C := RPt) (T := TPt) (N := 4) (ci := 0) (v := .int (σ.P 2 0)) hx hb hg inPt hown hK hP 4 rfl rfl 0 (by decide) (hg _ f_Nr_164) (fun _ h9 => h9) rfl dNr_firstFrom_25 ?_
                exact gx_pret E (by simp [fF, c_4, c_16, c_4', c_16', c_4'', c_16'']) dNr_firstFrom_28
          · refine lv_aload_n hx hb dNr_firstFrom_19 rfl (lv_at hl 1 rfl) ?_
            refine va_get (C := RNr) (T := TNr) (N := 10) (ci := 1) (v := .ref (a 1)) hx hb hg inNr hown hK hP 0 rfl rfl 0 (by decide) (hg _ f_Nr_11) (fun _ h9 => h9) rfl dNr_firstFrom_20 ?_
            refine lv_iload_n hx hb dNr_firstFrom_23 rfl (lv_at hl 0 rfl) ?_
            refine va_aldq hx hb hK hP 1 1 rfl rfl (by unfold vp_in; decide) dNr_firstFrom_24 ?_
            refine gx_stk (st' := [.ref (a (2 + 1))]) rfl ?_
            refine va_get (C := RPt) (T := TPt) (N := 4) (ci := 0) (v := .int (σ.P 1 0)) hx hb hg inPt hown hK hP 3 rfl rfl 0 (by decide) (hg _ f_Nr_164) (fun _ h9 => h9) rfl dNr_firstFrom_25 ?_
            exact gx_pret E (by simp [fF, c_4, c_16, c_4', c_16']) dNr_firstFrom_28
      · refine lv_aload_n hx hb dNr_firstFrom_19 rfl (lv_at hl 1 rfl) ?_
        refine va_get (C := RNr) (T := TNr) (N := 10) (ci := 1) (v := .ref (a 1)) hx hb hg inNr hown hK hP 0 rfl rfl 0 (by decide) (hg _ f_Nr_11) (fun _ h9 => h9) rfl dNr_firstFrom_20 ?_
        refine lv_iload_n hx hb dNr_firstFrom_23 rfl (lv_at hl 0 rfl) ?_
        refine va_aldq hx hb hK hP 1 1 rfl rfl (by unfold vp_in; decide) dNr_firstFrom_24 ?_
        refine gx_stk (st' := [.ref (a (2 + 0))]) rfl ?_
        refine va_get (C := RPt) (T := TPt) (N := 4) (ci := 0) (v := .int (σ.P 0 0)) hx hb hg inPt hown hK hP 2 rfl rfl 0 (by decide) (hg _ f_Nr_164) (fun _ h9 => h9) rfl dNr_firstFrom_25 ?_
        exact gx_pret E (by simp [fF, c_4, c_16]) dNr_firstFrom_28
  · have hl : lv_has ls 3 [(0, .ref (a 0)), (1, .int 1)] := hl
    refine lv_iload_n hx hb dNr_firstFrom_0 rfl (lv_at hl 1 rfl) ?_
    refine lv_istore_n (lv' := [(2, .int 1), (0, .ref (a 0)), (1, .int 1)]) hx hb dNr_firstFrom_1 rfl hl (by decide) rfl (fun ls hl => ?_)
    refine lv_iload_n hx hb dNr_firstFrom_2 rfl (lv_at hl 0 rfl) ?_
    refine lv_iconst (v := 4) hx hb dNr_firstFrom_3 (by decide) ?_
    refine lv_icmp_ge (tgt := 35) hx hb dNr_firstFrom_4 (by decide) (fun c_4 => ?_) (fun c_4 => ?_)
    · exact absurd c_4 (by decide)
    · refine lv_aload_n hx hb dNr_firstFrom_7 rfl (lv_at hl 1 rfl) ?_
      refine va_get (C := RNr) (T := TNr) (N := 10) (ci := 1) (v := .ref (a 1)) hx hb hg inNr hown hK hP 0 rfl rfl 0 (by decide) (hg _ f_Nr_11) (fun _ h9 => h9) rfl dNr_firstFrom_8 ?_
      refine lv_iload_n hx hb dNr_firstFrom_11 rfl (lv_at hl 0 rfl) ?_
      refine va_aldq hx hb hK hP 1 1 rfl rfl (by unfold vp_in; decide) dNr_firstFrom_12 ?_
      refine gx_stk (st' := [.ref (a (2 + 1))]) rfl ?_
      refine va_get (C := RPt) (T := TPt) (N := 4) (ci := 0) (v := .int (σ.P 1 3)) hx hb hg inPt hown hK hP 3 rfl rfl 3 (by decide) (hg _ f_Nr_120) (fun _ h9 => h9) rfl dNr_firstFrom_13 ?_
      refine lv_if_le (tgt := 29) hx hb dNr_firstFrom_16 (by decide) (fun c_16 => ?_) (fun c_16 => ?_)
      · refine lv_iinc (v := 2) (lv' := [(2, .int 2), (0, .ref (a 0)), (1, .int 1)]) hx hb dNr_firstFrom_29 hl (k := 0) rfl (by decide) (by decide) rfl (fun ls hl => ?_)
        refine lv_goto (tgt := 2) hx hb dNr_firstFrom_32 (by decide) ?_
        refine lv_iload_n hx hb dNr_firstFrom_2 rfl (lv_at hl 0 rfl) ?_
        refine lv_iconst (v := 4) hx hb dNr_firstFrom_3 (by decide) ?_
        refine lv_icmp_ge (tgt := 35) hx hb dNr_firstFrom_4 (by decide) (fun c_4' => ?_) (fun c_4' => ?_)
        · exact absurd c_4' (by decide)
        · refine lv_aload_n hx hb dNr_firstFrom_7 rfl (lv_at hl 1 rfl) ?_
          refine va_get (C := RNr) (T := TNr) (N := 10) (ci := 1) (v := .ref (a 1)) hx hb hg inNr hown hK hP 0 rfl rfl 0 (by decide) (hg _ f_Nr_11) (fun _ h9 => h9) rfl dNr_firstFrom_8 ?_
          refine lv_iload_n hx hb dNr_firstFrom_11 rfl (lv_at hl 0 rfl) ?_
          refine va_aldq hx hb hK hP 1 1 rfl rfl (by unfold vp_in; decide) dNr_firstFrom_12 ?_
          refine gx_stk (st' := [.ref (a (2 + 2))]) rfl ?_
          refine va_get (C := RPt) (T := TPt) (N := 4) (ci := 0) (v := .int (σ.P 2 3)) hx hb hg inPt hown hK hP 4 rfl rfl 3 (by decide) (hg _ f_Nr_120) (fun _ h9 => h9) rfl dNr_firstFrom_13 ?_
          refine lv_if_le (tgt := 29) hx hb dNr_firstFrom_16 (by decide) (fun c_16' => ?_) (fun c_16' => ?_)
          · refine lv_iinc (v := 3) (lv' := [(2, .int 3), (0, .ref (a 0)), (1, .int 1)]) hx hb dNr_firstFrom_29 hl (k := 0) rfl (by decide) (by decide) rfl (fun ls hl => ?_)
            refine lv_goto (tgt := 2) hx hb dNr_firstFrom_32 (by decide) ?_
            refine lv_iload_n hx hb dNr_firstFrom_2 rfl (lv_at hl 0 rfl) ?_
            refine lv_iconst (v := 4) hx hb dNr_firstFrom_3 (by decide) ?_
            refine lv_icmp_ge (tgt := 35) hx hb dNr_firstFrom_4 (by decide) (fun c_4'' => ?_) (fun c_4'' => ?_)
            · exact absurd c_4'' (by decide)
            · refine lv_aload_n hx hb dNr_firstFrom_7 rfl (lv_at hl 1 rfl) ?_
              refine va_get (C := RNr) (T := TNr) (N := 10) (ci := 1) (v := .ref (a 1)) hx hb hg inNr hown hK hP 0 rfl rfl 0 (by decide) (hg _ f_Nr_11) (fun _ h9 => h9) rfl dNr_firstFrom_8 ?_
              refine lv_iload_n hx hb dNr_firstFrom_11 rfl (lv_at hl 0 rfl) ?_
              refine va_aldq hx hb hK hP 1 1 rfl rfl (by unfold vp_in; decide) dNr_firstFrom_12 ?_
              refine gx_stk (st' := [.ref (a (2 + 3))]) rfl ?_
              refine va_get (C := RPt) (T := TPt) (N := 4) (ci := 0) (v := .int (σ.P 3 3)) hx hb hg inPt hown hK hP 5 rfl rfl 3 (by decide) (hg _ f_Nr_120) (fun _ h9 => h9) rfl dNr_firstFrom_13 ?_
              refine lv_if_le (tgt := 29) hx hb dNr_firstFrom_16 (by decide) (fun c_16'' => ?_) (fun c_16'' => ?_)
              · refine lv_iinc (v := 4) (lv' := [(2, .int 4), (0, .ref (a 0)), (1, .int 1)]) hx hb dNr_firstFrom_29 hl (k := 0) rfl (by decide) (by decide) rfl (fun ls hl => ?_)
                refine lv_goto (tgt := 2) hx hb dNr_firstFrom_32 (by decide) ?_
                refine lv_iload_n hx hb dNr_firstFrom_2 rfl (lv_at hl 0 rfl) ?_
                refine lv_iconst (v := 4) hx hb dNr_firstFrom_3 (by decide) ?_
                refine lv_icmp_ge (tgt := 35) hx hb dNr_firstFrom_4 (by decide) (fun c_4''' => ?_) (fun c_4''' => ?_)
                · refine lv_iconst (v := 0) hx hb dNr_firstFrom_35 (by decide) ?_
                  exact gx_pret E (by simp [fF, c_4, c_16, c_4', c_16', c_4'', c_16'', c_4''']) dNr_firstFrom_36
                · exact absurd c_4''' (by decide)
              · refine lv_aload_n hx hb dNr_firstFrom_19 rfl (lv_at hl 1 rfl) ?_
                refine va_get (C := RNr) (T := TNr) (N := 10) (ci := 1) (v := .ref (a 1)) hx hb hg inNr hown hK hP 0 rfl rfl 0 (by decide) (hg _ f_Nr_11) (fun _ h9 => h9) rfl dNr_firstFrom_20 ?_
                refine lv_iload_n hx hb dNr_firstFrom_23 rfl (lv_at hl 0 rfl) ?_
                refine va_aldq hx hb hK hP 1 1 rfl rfl (by unfold vp_in; decide) dNr_firstFrom_24 ?_
                refine gx_stk (st' := [.ref (a (2 + 3))]) rfl ?_
                refine va_get (C := RPt) (T := TPt) (N := 4) (ci := 0) (v := .int (σ.P 3 0)) hx hb hg inPt hown hK hP 5 rfl rfl 0 (by decide) (hg _ f_Nr_164) (fun _ h9 => h9) rfl dNr_firstFrom_25 ?_
                exact gx_pret E (by simp [fF, c_4, c_16, c_4', c_16', c_4'', c_16'']) dNr_firstFrom_28
          · refine lv_aload_n hx hb dNr_firstFrom_19 rfl (lv_at hl 1 rfl) ?_
            refine va_get (C := RNr) (T := TNr) (N := 10) (ci := 1) (v := .ref (a 1)) hx hb hg inNr hown hK hP 0 rfl rfl 0 (by decide) (hg _ f_Nr_11) (fun _ h9 => h9) rfl dNr_firstFrom_20 ?_
            refine lv_iload_n hx hb dNr_firstFrom_23 rfl (lv_at hl 0 rfl) ?_
            refine va_aldq hx hb hK hP 1 1 rfl rfl (by unfold vp_in; decide) dNr_firstFrom_24 ?_
            refine gx_stk (st' := [.ref (a (2 + 2))]) rfl ?_
            refine va_get (C := RPt) (T := TPt) (N := 4) (ci := 0) (v := .int (σ.P 2 0)) hx hb hg inPt hown hK hP 4 rfl rfl 0 (by decide) (hg _ f_Nr_164) (fun _ h9 => h9) rfl dNr_firstFrom_25 ?_
            exact gx_pret E (by simp [fF, c_4, c_16, c_4', c_16']) dNr_firstFrom_28
      · refine lv_aload_n hx hb dNr_firstFrom_19 rfl (lv_at hl 1 rfl) ?_
        refine va_get (C := RNr) (T := TNr) (N := 10) (ci := 1) (v := .ref (a 1)) hx hb hg inNr hown hK hP 0 rfl rfl 0 (by decide) (hg _ f_Nr_11) (fun _ h9 => h9) rfl dNr_firstFrom_20 ?_
        refine lv_iload_n hx hb dNr_firstFrom_23 rfl (lv_at hl 0 rfl) ?_
        refine va_aldq hx hb hK hP 1 1 rfl rfl (by unfold vp_in; decide) dNr_firstFrom_24 ?_
        refine gx_stk (st' := [.ref (a (2 + 1))]) rfl ?_
        refine va_get (C := RPt) (T := TPt) (N := 4) (ci := 0) (v := .int (σ.P 1 0)) hx hb hg inPt hown hK hP 3 rfl rfl 0 (by decide) (hg _ f_Nr_164) (fun _ h9 => h9) rfl dNr_firstFrom_25 ?_
        exact gx_pret E (by simp [fF, c_4, c_16]) dNr_firstFrom_28
  · have hl : lv_has ls 3 [(0, .ref (a 0)), (1, .int 2)] := hl
    refine lv_iload_n hx hb dNr_firstFrom_0 rfl (lv_at hl 1 rfl) ?_
    refine lv_istore_n (lv' := [(2, .int 2), (0, .ref (a 0)), (1, .int 2)]) hx hb dNr_firstFrom_1 rfl hl (by decide) rfl (fun ls hl => ?_)
    refine lv_iload_n hx hb dNr_firstFrom_2 rfl (lv_at hl 0 rfl) ?_
    refine lv_iconst (v := 4) hx hb dNr_firstFrom_3 (by decide) ?_
    refine lv_icmp_ge (tgt := 35) hx hb dNr_firstFrom_4 (by decide) (fun c_4 => ?_) (fun c_4 => ?_)
    · exact absurd c_4 (by decide)
    · refine lv_aload_n hx hb dNr_firstFrom_7 rfl (lv_at hl 1 rfl) ?_
      refine va_get (C := RNr) (T := TNr) (N := 10) (ci := 1) (v := .ref (a 1)) hx hb hg inNr hown hK hP 0 rfl rfl 0 (by decide) (hg _ f_Nr_11) (fun _ h9 => h9) rfl dNr_firstFrom_8 ?_
      refine lv_iload_n hx hb dNr_firstFrom_11 rfl (lv_at hl 0 rfl) ?_
      refine va_aldq hx hb hK hP 1 1 rfl rfl (by unfold vp_in; decide) dNr_firstFrom_12 ?_
      refine gx_stk (st' := [.ref (a (2 + 2))]) rfl ?_
      refine va_get (C := RPt) (T := TPt) (N := 4) (ci := 0) (v := .int (σ.P 2 3)) hx hb hg inPt hown hK hP 4 rfl rfl 3 (by decide) (hg _ f_Nr_120) (fun _ h9 => h9) rfl dNr_firstFrom_13 ?_
      refine lv_if_le (tgt := 29) hx hb dNr_firstFrom_16 (by decide) (fun c_16 => ?_) (fun c_16 => ?_)
      · refine lv_iinc (v := 3) (lv' := [(2, .int 3), (0, .ref (a 0)), (1, .int 2)]) hx hb dNr_firstFrom_29 hl (k := 0) rfl (by decide) (by decide) rfl (fun ls hl => ?_)
        refine lv_goto (tgt := 2) hx hb dNr_firstFrom_32 (by decide) ?_
        refine lv_iload_n hx hb dNr_firstFrom_2 rfl (lv_at hl 0 rfl) ?_
        refine lv_iconst (v := 4) hx hb dNr_firstFrom_3 (by decide) ?_
        refine lv_icmp_ge (tgt := 35) hx hb dNr_firstFrom_4 (by decide) (fun c_4' => ?_) (fun c_4' => ?_)
        · exact absurd c_4' (by decide)
        · refine lv_aload_n hx hb dNr_firstFrom_7 rfl (lv_at hl 1 rfl) ?_
          refine va_get (C := RNr) (T := TNr) (N := 10) (ci := 1) (v := .ref (a 1)) hx hb hg inNr hown hK hP 0 rfl rfl 0 (by decide) (hg _ f_Nr_11) (fun _ h9 => h9) rfl dNr_firstFrom_8 ?_
          refine lv_iload_n hx hb dNr_firstFrom_11 rfl (lv_at hl 0 rfl) ?_
          refine va_aldq hx hb hK hP 1 1 rfl rfl (by unfold vp_in; decide) dNr_firstFrom_12 ?_
          refine gx_stk (st' := [.ref (a (2 + 3))]) rfl ?_
          refine va_get (C := RPt) (T := TPt) (N := 4) (ci := 0) (v := .int (σ.P 3 3)) hx hb hg inPt hown hK hP 5 rfl rfl 3 (by decide) (hg _ f_Nr_120) (fun _ h9 => h9) rfl dNr_firstFrom_13 ?_
          refine lv_if_le (tgt := 29) hx hb dNr_firstFrom_16 (by decide) (fun c_16' => ?_) (fun c_16' => ?_)
          · refine lv_iinc (v := 4) (lv' := [(2, .int 4), (0, .ref (a 0)), (1, .int 2)]) hx hb dNr_firstFrom_29 hl (k := 0) rfl (by decide) (by decide) rfl (fun ls hl => ?_)
            refine lv_goto (tgt := 2) hx hb dNr_firstFrom_32 (by decide) ?_
            refine lv_iload_n hx hb dNr_firstFrom_2 rfl (lv_at hl 0 rfl) ?_
            refine lv_iconst (v := 4) hx hb dNr_firstFrom_3 (by decide) ?_
            refine lv_icmp_ge (tgt := 35) hx hb dNr_firstFrom_4 (by decide) (fun c_4'' => ?_) (fun c_4'' => ?_)
            · refine lv_iconst (v := 0) hx hb dNr_firstFrom_35 (by decide) ?_
              exact gx_pret E (by simp [fF, c_4, c_16, c_4', c_16', c_4'']) dNr_firstFrom_36
            · exact absurd c_4'' (by decide)
          · refine lv_aload_n hx hb dNr_firstFrom_19 rfl (lv_at hl 1 rfl) ?_
            refine va_get (C := RNr) (T := TNr) (N := 10) (ci := 1) (v := .ref (a 1)) hx hb hg inNr hown hK hP 0 rfl rfl 0 (by decide) (hg _ f_Nr_11) (fun _ h9 => h9) rfl dNr_firstFrom_20 ?_
            refine lv_iload_n hx hb dNr_firstFrom_23 rfl (lv_at hl 0 rfl) ?_
            refine va_aldq hx hb hK hP 1 1 rfl rfl (by unfold vp_in; decide) dNr_firstFrom_24 ?_
            refine gx_stk (st' := [.ref (a (2 + 3))]) rfl ?_
            refine va_get (C := RPt) (T := TPt) (N := 4) (ci := 0) (v := .int (σ.P 3 0)) hx hb hg inPt hown hK hP 5 rfl rfl 0 (by decide) (hg _ f_Nr_164) (fun _ h9 => h9) rfl dNr_firstFrom_25 ?_
            exact gx_pret E (by simp [fF, c_4, c_16, c_4', c_16']) dNr_firstFrom_28
      · refine lv_aload_n hx hb dNr_firstFrom_19 rfl (lv_at hl 1 rfl) ?_
        refine va_get (C := RNr) (T := TNr) (N := 10) (ci := 1) (v := .ref (a 1)) hx hb hg inNr hown hK hP 0 rfl rfl 0 (by decide) (hg _ f_Nr_11) (fun _ h9 => h9) rfl dNr_firstFrom_20 ?_
        refine lv_iload_n hx hb dNr_firstFrom_23 rfl (lv_at hl 0 rfl) ?_
        refine va_aldq hx hb hK hP 1 1 rfl rfl (by unfold vp_in; decide) dNr_firstFrom_24 ?_
        refine gx_stk (st' := [.ref (a (2 + 2))]) rfl ?_
        refine va_get (C := RPt) (T := TPt) (N := 4) (ci := 0) (v := .int (σ.P 2 0)) hx hb hg inPt hown hK hP 4 rfl rfl 0 (by decide) (hg _ f_Nr_164) (fun _ h9 => h9) rfl dNr_firstFrom_25 ?_
        exact gx_pret E (by simp [fF, c_4, c_16]) dNr_firstFrom_28
  · have hl : lv_has ls 3 [(0, .ref (a 0)), (1, .int 3)] := hl
    refine lv_iload_n hx hb dNr_firstFrom_0 rfl (lv_at hl 1 rfl) ?_
    refine lv_istore_n (lv' := [(2, .int 3), (0, .ref (a 0)), (1, .int 3)]) hx hb dNr_firstFrom_1 rfl hl (by decide) rfl (fun ls hl => ?_)
    refine lv_iload_n hx hb dNr_firstFrom_2 rfl (lv_at hl 0 rfl) ?_
    refine lv_iconst (v := 4) hx hb dNr_firstFrom_3 (by decide) ?_
    refine lv_icmp_ge (tgt := 35) hx hb dNr_firstFrom_4 (by decide) (fun c_4 => ?_) (fun c_4 => ?_)
    · exact absurd c_4 (by decide)
    · refine lv_aload_n hx hb dNr_firstFrom_7 rfl (lv_at hl 1 rfl) ?_
      refine va_get (C := RNr) (T := TNr) (N := 10) (ci := 1) (v := .ref (a 1)) hx hb hg inNr hown hK hP 0 rfl rfl 0 (by decide) (hg _ f_Nr_11) (fun _ h9 => h9) rfl dNr_firstFrom_8 ?_
      refine lv_iload_n hx hb dNr_firstFrom_11 rfl (lv_at hl 0 rfl) ?_
      refine va_aldq hx hb hK hP 1 1 rfl rfl (by unfold vp_in; decide) dNr_firstFrom_12 ?_
      refine gx_stk (st' := [.ref (a (2 + 3))]) rfl ?_
      refine va_get (C := RPt) (T := TPt) (N := 4) (ci := 0) (v := .int (σ.P 3 3)) hx hb hg inPt hown hK hP 5 rfl rfl 3 (by decide) (hg _ f_Nr_120) (fun _ h9 => h9) rfl dNr_firstFrom_13 ?_
      refine lv_if_le (tgt := 29) hx hb dNr_firstFrom_16 (by decide) (fun c_16 => ?_) (fun c_16 => ?_)
      · refine lv_iinc (v := 4) (lv' := [(2, .int 4), (0, .ref (a 0)), (1, .int 3)]) hx hb dNr_firstFrom_29 hl (k := 0) rfl (by decide) (by decide) rfl (fun ls hl => ?_)
        refine lv_goto (tgt := 2) hx hb dNr_firstFrom_32 (by decide) ?_
        refine lv_iload_n hx hb dNr_firstFrom_2 rfl (lv_at hl 0 rfl) ?_
        refine lv_iconst (v := 4) hx hb dNr_firstFrom_3 (by decide) ?_
        refine lv_icmp_ge (tgt := 35) hx hb dNr_firstFrom_4 (by decide) (fun c_4' => ?_) (fun c_4' => ?_)
        · refine lv_iconst (v := 0) hx hb dNr_firstFrom_35 (by decide) ?_
          exact gx_pret E (by simp [fF, c_4, c_16, c_4']) dNr_firstFrom_36
        · exact absurd c_4' (by decide)
      · refine lv_aload_n hx hb dNr_firstFrom_19 rfl (lv_at hl 1 rfl) ?_
        refine va_get (C := RNr) (T := TNr) (N := 10) (ci := 1) (v := .ref (a 1)) hx hb hg inNr hown hK hP 0 rfl rfl 0 (by decide) (hg _ f_Nr_11) (fun _ h9 => h9) rfl dNr_firstFrom_20 ?_
        refine lv_iload_n hx hb dNr_firstFrom_23 rfl (lv_at hl 0 rfl) ?_
        refine va_aldq hx hb hK hP 1 1 rfl rfl (by unfold vp_in; decide) dNr_firstFrom_24 ?_
        refine gx_stk (st' := [.ref (a (2 + 3))]) rfl ?_
        refine va_get (C := RPt) (T := TPt) (N := 4) (ci := 0) (v := .int (σ.P 3 0)) hx hb hg inPt hown hK hP 5 rfl rfl 0 (by decide) (hg _ f_Nr_164) (fun _ h9 => h9) rfl dNr_firstFrom_25 ?_
        exact gx_pret E (by simp [fF, c_4, c_16]) dNr_firstFrom_28
  · have hl : lv_has ls 3 [(0, .ref (a 0)), (1, .int 4)] := hl
    refine lv_iload_n hx hb dNr_firstFrom_0 rfl (lv_at hl 1 rfl) ?_
    refine lv_istore_n (lv' := [(2, .int 4), (0, .ref (a 0)), (1, .int 4)]) hx hb dNr_firstFrom_1 rfl hl (by decide) rfl (fun ls hl => ?_)
    refine lv_iload_n hx hb dNr_firstFrom_2 rfl (lv_at hl 0 rfl) ?_
    refine lv_iconst (v := 4) hx hb dNr_firstFrom_3 (by decide) ?_
    refine lv_icmp_ge (tgt := 35) hx hb dNr_firstFrom_4 (by decide) (fun c_4 => ?_) (fun c_4 => ?_)
    · refine lv_iconst (v := 0) hx hb dNr_firstFrom_35 (by decide) ?_
      exact gx_pret E rfl dNr_firstFrom_36
    · exact absurd c_4 (by decide)
set_option maxHeartbeats 4000000 in
set_option maxRecDepth 100000 in
/-- is x an object's address? -/
theorem qNr_isObject (l : Launch) (D : va_G) (cI cP : ClassId) (a : Nat → Nat) (σ : nSt) (pp : Nat → Nat → Nat) (x : Int32) (h : nInv σ pp) : gx_Mp l yNr_isObject (Cond.code yNr_isObject cNr_isObject 5 (some .boolean) :: gW) (gR 3) D gC (nrT cI cP) (nrW cI cP a σ) [.ref (a 0), .int x] (isOb σ.X pp x) := by
  refine gx_Mp.of (cc := cNr_isObject) (maxL := 5) (ret := (some .boolean)) (by decide) rfl (Nat.le_of_ble_eq_true rfl) ?_
  intro p e s m args below meth c ls E hK hP hD hl
  obtain ⟨hx, hb, hr, hml, hts, hown, hlocks, hnm⟩ := id E
  have hg : ∀ w ∈ gW, w.before args s = true := fun w h => hts w (List.mem_cons_of_mem _ h)
  have hown : s.vm.findClass "NurseryRow" = some m.cls := hown
  have hl : lv_has ls 5 [(0, .ref (a 0)), (1, .int x)] := hl
  rcases pOf_spec h x with hc | hc
  · obtain ⟨i, k, hi, hpo, hxk, hk1, hk2⟩ := hc
    have hLi := h.2.1 i hi
    have hei := h.end hi
    have hfew := hLi.few
    have hN : σ.N < 2 ^ 31 := by omega
    refine lv_aload_n hx hb dNr_isObject_0 rfl (lv_at hl 0 rfl) ?_
    refine lv_iload_n hx hb dNr_isObject_1 rfl (lv_at hl 1 rfl) ?_
    refine gx_callp (C := "NurseryRow") (As := [.int x]) (rest := []) E (qNr_partOf l D cI cP a σ x) (gx_cwV hts l_Nr_142 k_Nr_partOf ki_Nr_partOf ke_Nr_partOf z_Nr n_Nr_partOf ⟨by decide, by decide⟩) hK hP hD (va_recv hK hP (ci := 1) (q0 := 0) rfl rfl) hl.1 rfl rfl (Nat.le_of_ble_eq_true rfl) ⟨Nat.zero_le _, Nat.zero_le _⟩ dNr_isObject_2 ?_
    refine gx_top (z := nI i) hpo ?_
    refine lv_istore_n (lv' := [(2, .int (nI i)), (0, .ref (a 0)), (1, .int x)]) hx hb dNr_isObject_5 rfl hl (by decide) rfl (fun ls hl => ?_)
    refine lv_iload_n hx hb dNr_isObject_6 rfl (lv_at hl 0 rfl) ?_
    refine lv_iconst (v := 4) hx hb dNr_isObject_7 (by decide) ?_
    refine lv_icmp_ne (tgt := 13) hx hb dNr_isObject_8 (by decide) (fun c_8 => ?_) (fun c_8 => ?_)
    · refine lv_aload_n hx hb dNr_isObject_13 rfl (lv_at hl 1 rfl) ?_
      refine va_get (C := RNr) (T := TNr) (N := 10) (ci := 1) (v := .ref (a 1)) hx hb hg inNr hown hK hP 0 rfl rfl 0 (by decide) (hg _ f_Nr_11) (fun _ h9 => h9) rfl dNr_isObject_14 ?_
      refine lv_iload_n hx hb dNr_isObject_17 rfl (lv_at hl 0 rfl) ?_
      refine va_aldq hx hb hK hP 1 1 rfl rfl (vp_in_nI hi (by omega)) dNr_isObject_18 ?_
      refine gx_stk (st' := [.ref (a (2 + i))]) (by rw [nI_clamp (by omega)]; rfl) ?_
      refine va_get (C := RPt) (T := TPt) (N := 4) (ci := 0) (v := .int (σ.P i 0)) hx hb hg inPt hown hK hP (2 + i) (nr_pl cI cP a σ hi) rfl 0 (by decide) (hg _ f_Nr_164) (fun _ h9 => h9) rfl dNr_isObject_19 ?_
      refine gx_top (z := nI (ch σ.X (pp i 0) 0)) (h.1 i hi 0 (by omega)) ?_
      refine lv_istore_n (lv' := [(3, .int (nI (ch σ.X (pp i 0) 0))), (2, .int (nI i)), (0, .ref (a 0)), (1, .int x)]) hx hb dNr_isObject_22 rfl hl (by decide) rfl (fun ls hl => ?_)
      refine lv_iconst (v := 0) hx hb dNr_isObject_23 (by decide) ?_
      refine lv_istore (lv' := [(4, .int 0), (3, .int (nI (ch σ.X (pp i 0) 0))), (2, .int (nI i)), (0, .ref (a 0)), (1, .int x)]) hx hb dNr_isObject_24 hl (by decide) rfl (fun ls hl => ?_)
      have key : ∀ (n : Nat) (j : Nat) (ls : Array Slot), pp i 3 - j < n → (j ≤ pp i 3) → (∀ t, t < j → ch σ.X (pp i 0) t < k) → lv_has ls 5 [(0, .ref (a 0)), (1, .int x), (2, .int (nI i)), (3, .int (nI (ch σ.X (pp i 0) j))), (4, .int (nI j))] → W p l e (gR 3) s m args below meth c s.heap [] 0 0 (MQ below (QcRead (isOb σ.X pp x)) args s 0 0 (fun _ => False)) (F0 m 26 ls []) := by
        intro n
        induction n with
        | zero => intro j ls hm; exact absurd hm (Nat.not_lt_zero _)
        | succ n ih =>
          intro j ls hm hj hjk hl
          refine lv_iload hx hb dNr_isObject_26 (lv_at hl 4 rfl) ?_
          refine lv_aload_n hx hb dNr_isObject_28 rfl (lv_at hl 0 rfl) ?_
          refine va_get (C := RNr) (T := TNr) (N := 10) (ci := 1) (v := .ref (a 1)) hx hb hg inNr hown hK hP 0 rfl rfl 0 (by decide) (hg _ f_Nr_11) (fun _ h9 => h9) rfl dNr_isObject_29 ?_
          refine lv_iload_n hx hb dNr_isObject_32 rfl (lv_at hl 2 rfl) ?_
          refine va_aldq hx hb hK hP 1 1 rfl rfl (vp_in_nI hi (by omega)) dNr_isObject_33 ?_
          refine gx_stk (st' := [.ref (a (2 + i)), .int (nI j)]) (by rw [nI_clamp (by omega)]; rfl) ?_
          refine va_get (C := RPt) (T := TPt) (N := 4) (ci := 0) (v := .int (σ.P i 3)) hx hb hg inPt hown hK hP (2 + i) (nr_pl cI cP a σ hi) rfl 3 (by decide) (hg _ f_Nr_120) (fun _ h9 => h9) rfl dNr_isObject_34 ?_
          refine gx_top (z := nI (pp i 3)) (h.1 i hi 3 (by omega)) ?_
          refine lv_icmp_ge (tgt := 59) hx hb dNr_isObject_37 (by decide) (fun c_37 => ?_) (fun c_37 => ?_)
          · refine lv_iload_n hx hb dNr_isObject_59 rfl (lv_at hl 3 rfl) ?_
            refine lv_iload_n hx hb dNr_isObject_60 rfl (lv_at hl 1 rfl) ?_
            refine lv_icmp_ne (tgt := 68) hx hb dNr_isObject_61 (by decide) (fun c_61 => ?_) (fun c_61 => ?_)
            · refine lv_iconst (v := 0) hx hb dNr_isObject_68 (by decide) ?_
              exact gx_zret E rfl (isob_n h hi hk1 hk2 hxk hjk (Or.inl (Nat.not_lt.mp fun z => nI_ge z (by omega) c_37))).symm dNr_isObject_69
            · refine lv_iconst (v := 1) hx hb dNr_isObject_64 (by decide) ?_
              refine lv_goto (tgt := 69) hx hb dNr_isObject_65 (by decide) ?_
              exact gx_zret E rfl (absurd c_61 (fun z => by have h1 : pp i 3 ≤ j := Nat.not_lt.mp (fun z => nI_ge z (by omega) c_37); have h2 : j = pp i 3 := (by omega); rw [h2, hLi.1, hxk] at z; have h3 := (nI_eq (by omega) (by omega)).mp z; omega)) dNr_isObject_69
          · refine lv_iload_n hx hb dNr_isObject_40 rfl (lv_at hl 3 rfl) ?_
            refine lv_iload_n hx hb dNr_isObject_41 rfl (lv_at hl 1 rfl) ?_
            refine lv_icmp_ge (tgt := 59) hx hb dNr_isObject_42 (by decide) (fun c_42 => ?_) (fun c_42 => ?_)
            · refine lv_iload_n hx hb dNr_isObject_59 rfl (lv_at hl 3 rfl) ?_
              refine lv_iload_n hx hb dNr_isObject_60 rfl (lv_at hl 1 rfl) ?_
              refine lv_icmp_ne (tgt := 68) hx hb dNr_isObject_61 (by decide) (fun c_61 => ?_) (fun c_61 => ?_)
              · refine lv_iconst (v := 0) hx hb dNr_isObject_68 (by decide) ?_
                exact gx_zret E rfl (isob_n h hi hk1 hk2 hxk hjk (Or.inr (by have h1 : j < pp i 3 := Nat.not_le.mp (fun z => c_37 (nI_le z (by omega))); have h2 := hLi.in h1; have h3 : k ≤ ch σ.X (pp i 0) j := Nat.not_lt.mp (fun z => by rw [hxk] at c_42; exact nI_ge z (by omega) c_42); rcases Nat.lt_or_eq_of_le h3 with q | q; exact q; exact absurd (by rw [hxk, q]) c_61))).symm dNr_isObject_69
              · refine lv_iconst (v := 1) hx hb dNr_isObject_64 (by decide) ?_
                refine lv_goto (tgt := 69) hx hb dNr_isObject_65 (by decide) ?_
                exact gx_zret E rfl (isob_y hi (Nat.not_le.mp (fun z => c_37 (nI_le z (by omega)))) c_61).symm dNr_isObject_69
            · refine lv_iload_n hx hb dNr_isObject_45 rfl (lv_at hl 3 rfl) ?_
              refine lv_aload_n hx hb dNr_isObject_46 rfl (lv_at hl 0 rfl) ?_
              refine lv_iload_n hx hb dNr_isObject_47 rfl (lv_at hl 3 rfl) ?_
              have hjl : j < pp i 3 := Nat.not_le.mp fun z => c_37 (nI_le z (by omega))
              have hlt : ch σ.X (pp i 0) j < k := Nat.not_le.mp fun z => c_42 (by rw [hxk]; exact nI_le z (by have := (hLi.in hjl); omega))
              obtain ⟨nf, nw, hf, hw, e1, e2, e3⟩ := hLi.sz hjl
              have hin := hLi.in hjl
              refine gx_callp (C := "NurseryRow") (As := [.int (nI (ch σ.X (pp i 0) j))]) (rest := [.int (nI (ch σ.X (pp i 0) j))]) E (qNr_sizeAt l D cI cP a σ (ch σ.X (pp i 0) j) (by omega) hN) (gx_cwV hts l_Nr_150 k_Nr_sizeAt ki_Nr_sizeAt ke_Nr_sizeAt z_Nr n_Nr_sizeAt ⟨by decide, by decide⟩) hK hP hD (va_recv hK hP (ci := 1) (q0 := 0) rfl rfl) hl.1 rfl rfl (Nat.le_of_ble_eq_true rfl) ⟨Nat.zero_le _, Nat.zero_le _⟩ dNr_isObject_48 ?_
              refine lv_iadd hx hb dNr_isObject_51 ?_
              refine gx_top (z := nI (ch σ.X (pp i 0) (j + 1))) (by rw [e1, e2, show (3 : Int32) = nI 3 from rfl, nI_add, nI_add, nI_add]; simp only [ch, e3]) ?_
              refine lv_istore_n (lv' := [(3, .int (nI (ch σ.X (pp i 0) (j + 1)))), (0, .ref (a 0)), (1, .int x), (2, .int (nI i)), (4, .int (nI j))]) hx hb dNr_isObject_52 rfl hl (by decide) rfl (fun ls hl => ?_)
              refine lv_iinc (v := nI (j + 1)) (lv' := [(4, .int (nI (j + 1))), (3, .int (nI (ch σ.X (pp i 0) (j + 1)))), (0, .ref (a 0)), (1, .int x), (2, .int (nI i))]) hx hb dNr_isObject_53 hl (k := 4) rfl (by rw [← nI_1]; rfl) (by decide) rfl (fun ls hl => ?_)
              refine lv_goto (tgt := 26) hx hb dNr_isObject_56 (by decide) ?_
              exact ih (j + 1) ls (by omega) (by omega) (lt_s hjk hlt) (lv_sub hl [2, 3, 4, 1, 0] rfl)
      exact key ((pp i 3 - 0) + 1) 0 ls (Nat.lt_succ_self _) (Nat.zero_le _) (fun t ht => absurd ht (Nat.not_lt_zero _)) (lv_sub hl [3, 4, 2, 1, 0] rfl)
    · exact absurd c_8 (fun z => by have := (nI_eq (by omega) (by decide)).mp (show nI i = nI 4 from z); omega)
  · obtain ⟨hpo, hno⟩ := hc
    refine lv_aload_n hx hb dNr_isObject_0 rfl (lv_at hl 0 rfl) ?_
    refine lv_iload_n hx hb dNr_isObject_1 rfl (lv_at hl 1 rfl) ?_
    refine gx_callp (C := "NurseryRow") (As := [.int x]) (rest := []) E (qNr_partOf l D cI cP a σ x) (gx_cwV hts l_Nr_142 k_Nr_partOf ki_Nr_partOf ke_Nr_partOf z_Nr n_Nr_partOf ⟨by decide, by decide⟩) hK hP hD (va_recv hK hP (ci := 1) (q0 := 0) rfl rfl) hl.1 rfl rfl (Nat.le_of_ble_eq_true rfl) ⟨Nat.zero_le _, Nat.zero_le _⟩ dNr_isObject_2 ?_
    refine gx_top (z := 4) hpo ?_
    refine lv_istore_n (lv' := [(2, .int 4), (0, .ref (a 0)), (1, .int x)]) hx hb dNr_isObject_5 rfl hl (by decide) rfl (fun ls hl => ?_)
    refine lv_iload_n hx hb dNr_isObject_6 rfl (lv_at hl 0 rfl) ?_
    refine lv_iconst (v := 4) hx hb dNr_isObject_7 (by decide) ?_
    refine lv_icmp_ne (tgt := 13) hx hb dNr_isObject_8 (by decide) (fun c_8 => ?_) (fun c_8 => ?_)
    · exact absurd c_8 (by decide)
    · refine lv_iconst (v := 0) hx hb dNr_isObject_11 (by decide) ?_
      exact gx_zret E rfl (isOb_0 (fun ⟨i, hi, t, ht, e⟩ => by have hl := (h.2.1 i hi).in ht; exact hno i hi (ch σ.X (pp i 0) t) hl.1 (by simp only [szX] at hl; omega) e)).symm dNr_isObject_12
/-- nothing, or an object? -/
noncomputable def isNO (X : Nat → Int32) (pp : Nat → Nat → Nat) (x : Int32) : Int32 := if x = 0 then 1 else if isOb X pp x = 0 then 0 else 1
set_option maxHeartbeats 4000000 in
set_option maxRecDepth 100000 in
/-- nothing, or an object? -/
theorem qNr_isNothingOrObject (l : Launch) (D : va_G) (cI cP : ClassId) (a : Nat → Nat) (σ : nSt) (pp : Nat → Nat → Nat) (x : Int32) (h : nInv σ pp) : gx_Mp l yNr_isNothingOrObject (Cond.code yNr_isNothingOrObject cNr_isNothingOrObject 2 (some .boolean) :: gW) (gR 4) D gC (nrT cI cP) (nrW cI cP a σ) [.ref (a 0), .int x] (isNO σ.X pp x) := by
  refine gx_Mp.of (cc := cNr_isNothingOrObject) (maxL := 2) (ret := (some .boolean)) (by decide) rfl (Nat.le_of_ble_eq_true rfl) ?_
  intro p e s m args below meth c ls E hK hP hD hl
  obtain ⟨hx, hb, hr, hml, hts, hown, hlocks, hnm⟩ := id E
  have hg : ∀ w ∈ gW, w.before args s = true := fun w h => hts w (List.mem_cons_of_mem _ h)
  have hown : s.vm.findClass "NurseryRow" = some m.cls := hown
  have hl : lv_has ls 2 [(0, .ref (a 0)), (1, .int x)] := hl
  refine lv_iload_n hx hb dNr_isNothingOrObject_0 rfl (lv_at hl 1 rfl) ?_
  refine lv_if_eq (tgt := 12) hx hb dNr_isNothingOrObject_1 (by decide) (fun c_1 => ?_) (fun c_1 => ?_)
  · refine lv_iconst (v := 1) hx hb dNr_isNothingOrObject_12 (by decide) ?_
    refine lv_goto (tgt := 17) hx hb dNr_isNothingOrObject_13 (by decide) ?_
    exact gx_zret E rfl (by simp [isNO, c_1]) dNr_isNothingOrObject_17
  · refine lv_aload_n hx hb dNr_isNothingOrObject_4 rfl (lv_at hl 0 rfl) ?_
    refine lv_iload_n hx hb dNr_isNothingOrObject_5 rfl (lv_at hl 1 rfl) ?_
    refine gx_callp (C := "NurseryRow") (As := [.int x]) (rest := []) E (qNr_isObject l D cI cP a σ pp x h) (gx_cwV hts l_Nr_139 k_Nr_isObject ki_Nr_isObject ke_Nr_isObject z_Nr n_Nr_isObject ⟨by decide, by decide⟩) hK hP hD (va_recv hK hP (ci := 1) (q0 := 0) rfl rfl) hl.1 rfl rfl (Nat.le_of_ble_eq_true rfl) ⟨Nat.zero_le _, Nat.zero_le _⟩ dNr_isNothingOrObject_6 ?_
    refine lv_if_eq (tgt := 16) hx hb dNr_isNothingOrObject_9 (by decide) (fun c_9 => ?_) (fun c_9 => ?_)
    · refine lv_iconst (v := 0) hx hb dNr_isNothingOrObject_16 (by decide) ?_
      exact gx_zret E rfl (by simp [isNO, c_1, c_9]) dNr_isNothingOrObject_17
    · refine lv_iconst (v := 1) hx hb dNr_isNothingOrObject_12 (by decide) ?_
      refine lv_goto (tgt := 17) hx hb dNr_isNothingOrObject_13 (by decide) ?_
      exact gx_zret E rfl (by simp [isNO, c_1, c_9]) dNr_isNothingOrObject_17
/-- where a field lies; 0 if there is none -/
noncomputable def fCl (X : Nat → Int32) (pp : Nat → Nat → Nat) (x f : Int32) : Int32 := if isOb X pp x = 0 then 0 else if f < 0 then 0 else if f < X x.toNatClampNeg then x + 3 + f else 0
noncomputable def wCl (X : Nat → Int32) (pp : Nat → Nat → Nat) (x f : Int32) : Int32 := if isOb X pp x = 0 then 0 else if f < 0 then 0 else if f < X (x.toNatClampNeg + 1) then x + 3 + X x.toNatClampNeg + f else 0
set_option maxHeartbeats 4000000 in
set_option maxRecDepth 100000 in
/-- where a field lies -/
theorem qNr_fieldCell (l : Launch) (D : va_G) (cI cP : ClassId) (a : Nat → Nat) (σ : nSt) (pp : Nat → Nat → Nat) (x f : Int32) (h : nInv σ pp) : gx_Mp l yNr_fieldCell (Cond.code yNr_fieldCell cNr_fieldCell 3 (some .int) :: gW) (gR 4) D gC (nrT cI cP) (nrW cI cP a σ) [.ref (a 0), .int x, .int f] (fCl σ.X pp x f) := by
  refine gx_Mp.of (cc := cNr_fieldCell) (maxL := 3) (ret := (some .int)) (by decide) rfl (Nat.le_of_ble_eq_true rfl) ?_
  intro p e s m args below meth c ls E hK hP hD hl
  obtain ⟨hx, hb, hr, hml, hts, hown, hlocks, hnm⟩ := id E
  have hg : ∀ w ∈ gW, w.before args s = true := fun w h => hts w (List.mem_cons_of_mem _ h)
  have hown : s.vm.findClass "NurseryRow" = some m.cls := hown
  have hl : lv_has ls 3 [(0, .ref (a 0)), (1, .int x), (2, .int f)] := hl
  refine lv_aload_n hx hb dNr_fieldCell_0 rfl (lv_at hl 0 rfl) ?_
  refine lv_iload_n hx hb dNr_fieldCell_1 rfl (lv_at hl 1 rfl) ?_
  refine gx_callp (C := "NurseryRow") (As := [.int x]) (rest := []) E (qNr_isObject l D cI cP a σ pp x h) (gx_cwV hts l_Nr_139 k_Nr_isObject ki_Nr_isObject ke_Nr_isObject z_Nr n_Nr_isObject ⟨by decide, by decide⟩) hK hP hD (va_recv hK hP (ci := 1) (q0 := 0) rfl rfl) hl.1 rfl rfl (Nat.le_of_ble_eq_true rfl) ⟨Nat.zero_le _, Nat.zero_le _⟩ dNr_fieldCell_2 ?_
  refine lv_if_eq (tgt := 22) hx hb dNr_fieldCell_5 (by decide) (fun c_5 => ?_) (fun c_5 => ?_)
  · refine lv_iconst (v := 0) hx hb dNr_fieldCell_22 (by decide) ?_
    exact gx_pret E (by simp [fCl, c_5]) dNr_fieldCell_23
  · obtain ⟨i, hi, t, ht, hxt⟩ := isOb_ne c_5
    have hin := (h.2.1 i hi).in ht
    have hen := h.end hi
    have hsz : 3 ≤ szX σ.X (ch σ.X (pp i 0) t) := by simp only [szX]; omega
    have hN : σ.N < 2 ^ 31 := by omega
    refine lv_iload_n hx hb dNr_fieldCell_8 rfl (lv_at hl 2 rfl) ?_
    refine lv_if_lt (tgt := 22) hx hb dNr_fieldCell_9 (by decide) (fun c_9 => ?_) (fun c_9 => ?_)
    · refine lv_iconst (v := 0) hx hb dNr_fieldCell_22 (by decide) ?_
      exact gx_pret E (by simp [fCl, c_5, c_9]) dNr_fieldCell_23
    · refine lv_iload_n hx hb dNr_fieldCell_12 rfl (lv_at hl 2 rfl) ?_
      refine lv_aload_n hx hb dNr_fieldCell_13 rfl (lv_at hl 0 rfl) ?_
      refine va_get (C := RNr) (T := TNr) (N := 10) (ci := 1) (v := .ref σ.hx) hx hb hg inNr hown hK hP 0 rfl rfl 3 (by decide) (hg _ f_Nr_23) (fun _ h9 => h9) rfl dNr_fieldCell_14 ?_
      refine lv_iload_n hx hb dNr_fieldCell_17 rfl (lv_at hl 1 rfl) ?_
      refine va_iald hx hb hK hP 8 0 rfl rfl (by rw [hxt]; exact vp_in_nI (by omega) hN) dNr_fieldCell_18 ?_
      refine lv_icmp_lt (tgt := 24) hx hb dNr_fieldCell_19 (by decide) (fun c_19 => ?_) (fun c_19 => ?_)
      · refine lv_iload_n hx hb dNr_fieldCell_24 rfl (lv_at hl 1 rfl) ?_
        refine lv_iconst (v := 3) hx hb dNr_fieldCell_25 (by decide) ?_
        refine lv_iadd hx hb dNr_fieldCell_26 ?_
        refine lv_iload_n hx hb dNr_fieldCell_27 rfl (lv_at hl 2 rfl) ?_
        refine lv_iadd hx hb dNr_fieldCell_28 ?_
        exact gx_pret E (by simp [fCl, c_5, c_9, c_19]) dNr_fieldCell_29
      · refine lv_iconst (v := 0) hx hb dNr_fieldCell_22 (by decide) ?_
        exact gx_pret E (by simp [fCl, c_5, c_9, c_19]) dNr_fieldCell_23
set_option maxHeartbeats 4000000 in
set_option maxRecDepth 100000 in
/-- where a word lies -/
theorem qNr_wordCell (l : Launch) (D : va_G) (cI cP : ClassId) (a : Nat → Nat) (σ : nSt) (pp : Nat → Nat → Nat) (x f : Int32) (h : nInv σ pp) : gx_Mp l yNr_wordCell (Cond.code yNr_wordCell cNr_wordCell 3 (some .int) :: gW) (gR 4) D gC (nrT cI cP) (nrW cI cP a σ) [.ref (a 0), .int x, .int f] (wCl σ.X pp x f) := by
  refine gx_Mp.of (cc := cNr_wordCell) (maxL := 3) (ret := (some .int)) (by decide) rfl (Nat.le_of_ble_eq_true rfl) ?_
  intro p e s m args below meth c ls E hK hP hD hl
  obtain ⟨hx, hb, hr, hml, hts, hown, hlocks, hnm⟩ := id E
  have hg : ∀ w ∈ gW, w.before args s = true := fun w h => hts w (List.mem_cons_of_mem _ h)
  have hown : s.vm.findClass "NurseryRow" = some m.cls := hown
  have hl : lv_has ls 3 [(0, .ref (a 0)), (1, .int x), (2, .int f)] := hl
  refine lv_aload_n hx hb dNr_wordCell_0 rfl (lv_at hl 0 rfl) ?_
  refine lv_iload_n hx hb dNr_wordCell_1 rfl (lv_at hl 1 rfl) ?_
  refine gx_callp (C := "NurseryRow") (As := [.int x]) (rest := []) E (qNr_isObject l D cI cP a σ pp x h) (gx_cwV hts l_Nr_139 k_Nr_isObject ki_Nr_isObject ke_Nr_isObject z_Nr n_Nr_isObject ⟨by decide, by decide⟩) hK hP hD (va_recv hK hP (ci := 1) (q0 := 0) rfl rfl) hl.1 rfl rfl (Nat.le_of_ble_eq_true rfl) ⟨Nat.zero_le _, Nat.zero_le _⟩ dNr_wordCell_2 ?_
  refine lv_if_eq (tgt := 24) hx hb dNr_wordCell_5 (by decide) (fun c_5 => ?_) (fun c_5 => ?_)
  · refine lv_iconst (v := 0) hx hb dNr_wordCell_24 (by decide) ?_
    exact gx_pret E (by simp [wCl, c_5]) dNr_wordCell_25
  · obtain ⟨i, hi, t, ht, hxt⟩ := isOb_ne c_5
    have hin := (h.2.1 i hi).in ht
    have hen := h.end hi
    have hsz : 3 ≤ szX σ.X (ch σ.X (pp i 0) t) := by simp only [szX]; omega
    have hN : σ.N < 2 ^ 31 := by omega
    refine lv_iload_n hx hb dNr_wordCell_8 rfl (lv_at hl 2 rfl) ?_
    refine lv_if_lt (tgt := 24) hx hb dNr_wordCell_9 (by decide) (fun c_9 => ?_) (fun c_9 => ?_)
    · refine lv_iconst (v := 0) hx hb dNr_wordCell_24 (by decide) ?_
      exact gx_pret E (by simp [wCl, c_5, c_9]) dNr_wordCell_25
    · refine lv_iload_n hx hb dNr_wordCell_12 rfl (lv_at hl 2 rfl) ?_
      refine lv_aload_n hx hb dNr_wordCell_13 rfl (lv_at hl 0 rfl) ?_
      refine va_get (C := RNr) (T := TNr) (N := 10) (ci := 1) (v := .ref σ.hx) hx hb hg inNr hown hK hP 0 rfl rfl 3 (by decide) (hg _ f_Nr_23) (fun _ h9 => h9) rfl dNr_wordCell_14 ?_
      refine lv_iload_n hx hb dNr_wordCell_17 rfl (lv_at hl 1 rfl) ?_
      refine lv_iconst (v := 1) hx hb dNr_wordCell_18 (by decide) ?_
      refine lv_iadd hx hb dNr_wordCell_19 ?_
      refine va_iald hx hb hK hP 8 0 rfl rfl (by rw [hxt, nI_1]; exact vp_in_nI (by omega) hN) dNr_wordCell_20 ?_
      refine gx_top (z := σ.X (x.toNatClampNeg + 1)) (by rw [hxt, nI_1, nI_clamp (by omega), nI_clamp (by omega)]) ?_
      refine lv_icmp_lt (tgt := 26) hx hb dNr_wordCell_21 (by decide) (fun c_21 => ?_) (fun c_21 => ?_)
      · refine lv_iload_n hx hb dNr_wordCell_26 rfl (lv_at hl 1 rfl) ?_
        refine lv_iconst (v := 3) hx hb dNr_wordCell_27 (by decide) ?_
        refine lv_iadd hx hb dNr_wordCell_28 ?_
        refine lv_aload_n hx hb dNr_wordCell_29 rfl (lv_at hl 0 rfl) ?_
        refine va_get (C := RNr) (T := TNr) (N := 10) (ci := 1) (v := .ref σ.hx) hx hb hg inNr hown hK hP 0 rfl rfl 3 (by decide) (hg _ f_Nr_23) (fun _ h9 => h9) rfl dNr_wordCell_30 ?_
        refine lv_iload_n hx hb dNr_wordCell_33 rfl (lv_at hl 1 rfl) ?_
        refine va_iald hx hb hK hP 8 0 rfl rfl (by rw [hxt]; exact vp_in_nI (by omega) hN) dNr_wordCell_34 ?_
        refine lv_iadd hx hb dNr_wordCell_35 ?_
        refine lv_iload_n hx hb dNr_wordCell_36 rfl (lv_at hl 2 rfl) ?_
        refine lv_iadd hx hb dNr_wordCell_37 ?_
        exact gx_pret E (by simp [wCl, c_5, c_9, c_21]) dNr_wordCell_38
      · refine lv_iconst (v := 0) hx hb dNr_wordCell_24 (by decide) ?_
        exact gx_pret E (by simp [wCl, c_5, c_9, c_21]) dNr_wordCell_25
set_option maxHeartbeats 4000000 in
set_option maxRecDepth 100000 in
/-- a cell becomes v: what it was -/
theorem qNr_exchange (l : Launch) (D : va_G) (cI cP : ClassId) (a : Nat → Nat) (σ : nSt) (k : Nat) (v : Int32) (hk : k < σ.N) (hN : σ.N < 2 ^ 31) : gx_Mi l yNr_exchange (Cond.code yNr_exchange cNr_exchange 4 (some .int) :: gW) (gR 0) D gC (nrT cI cP) (nrW cI cP a) σ [.ref (a 0), .int (nI k), .int v] (fun r u => r = σ.X k ∧ u = σ.sX (upd σ.X k v)) := by
  refine gx_Mi.of (cc := cNr_exchange) (maxL := 4) (ret := (some .int)) (by decide) rfl (Nat.le_of_ble_eq_true rfl) ?_
  intro p e s m args below meth c ls A E hA hK hP hD hS hl
  obtain ⟨hx, hb, hr, hml, hts, hown, hlocks, hnm⟩ := id E
  have hg : ∀ w ∈ gW, w.before args s = true := fun w h => hts w (List.mem_cons_of_mem _ h)
  have hown : s.vm.findClass "NurseryRow" = some m.cls := hown
  have hl : lv_has ls 4 [(0, .ref (a 0)), (1, .int (nI k)), (2, .int v)] := hl
  refine lv_aload_n hx hb dNr_exchange_0 rfl (lv_at hl 0 rfl) ?_
  refine va_get (C := RNr) (T := TNr) (N := 10) (ci := 1) (v := .ref σ.hx) hx hb hg inNr hown hK hP 0 rfl rfl 3 (by decide) (hg _ f_Nr_23) (fun _ h9 => h9) rfl dNr_exchange_1 ?_
  refine lv_iload_n hx hb dNr_exchange_4 rfl (lv_at hl 1 rfl) ?_
  refine va_iald hx hb hK hP 8 0 rfl rfl (vp_in_nI hk hN) dNr_exchange_5 ?_
  refine gx_top (z := σ.X k) (by rw [nI_clamp (by omega)]) ?_
  refine lv_istore_n (lv' := [(3, .int (σ.X k)), (0, .ref (a 0)), (1, .int (nI k)), (2, .int v)]) hx hb dNr_exchange_6 rfl hl (by decide) rfl (fun ls hl => ?_)
  refine lv_aload_n hx hb dNr_exchange_7 rfl (lv_at hl 1 rfl) ?_
  refine va_get (C := RNr) (T := TNr) (N := 10) (ci := 1) (v := .ref σ.hx) hx hb hg inNr hown hK hP 0 rfl rfl 3 (by decide) (hg _ f_Nr_23) (fun _ h9 => h9) rfl dNr_exchange_8 ?_
  refine lv_iload_n hx hb dNr_exchange_11 rfl (lv_at hl 2 rfl) ?_
  refine lv_iload_n hx hb dNr_exchange_12 rfl (lv_at hl 3 rfl) ?_
  refine va_iast hx hb hK hP hD hS 8 0 rfl rfl (vp_in_nI hk hN) dNr_exchange_13 (fun H locs hP hD hS => ?_)
  rw [nI_clamp (show k < 2 ^ 31 by omega)] at hP hD
  have hP : va_P D gC (nrW cI cP a (σ.sX (upd σ.X k v))) H := hP
  have hD : va_D A (nrW cI cP a (σ.sX (upd σ.X k v))) := hD
  refine lv_iload_n hx hb dNr_exchange_14 rfl (lv_at hl 0 rfl) ?_
  exact gx_iret (u := σ.sX (upd σ.X k v)) E hK hP hD hS ⟨rfl, rfl⟩ dNr_exchange_15
/-- is x young, where the row in use is c? -/
def isY (σ : nSt) (c : Nat) (x : Int32) : Int32 := if ptCov (σ.P 0 0) (σ.P 0 2) x = 0 then (if ptCov (σ.P (1 + c) 0) (σ.P (1 + c) 2) x = 0 then 0 else 1) else 1
set_option maxHeartbeats 4000000 in
set_option maxRecDepth 100000 in
/-- is x young? -/
theorem qNr_isYoung (l : Launch) (D : va_G) (cI cP : ClassId) (a : Nat → Nat) (σ : nSt) (c0 : Nat) (x : Int32) (hrw : (σ.F 2 = 0 ∧ c0 = 0) ∨ (σ.F 2 = 1 ∧ c0 = 1)) : gx_Mp l yNr_isYoung (Cond.code yNr_isYoung cNr_isYoung 2 (some .boolean) :: gW) (gR 2) D gC (nrT cI cP) (nrW cI cP a σ) [.ref (a 0), .int x] (isY σ c0 x) := by
  refine gx_Mp.of (cc := cNr_isYoung) (maxL := 2) (ret := (some .boolean)) (by decide) rfl (Nat.le_of_ble_eq_true rfl) ?_
  intro p e s m args below meth c ls E hK hP hD hl
  obtain ⟨hx, hb, hr, hml, hts, hown, hlocks, hnm⟩ := id E
  have hg : ∀ w ∈ gW, w.before args s = true := fun w h => hts w (List.mem_cons_of_mem _ h)
  have hown : s.vm.findClass "NurseryRow" = some m.cls := hown
  have hl : lv_has ls 2 [(0, .ref (a 0)), (1, .int x)] := hl
  rcases hrw with ⟨hrw, rfl⟩ | ⟨hrw, rfl⟩
  · refine lv_aload_n hx hb dNr_isYoung_0 rfl (lv_at hl 0 rfl) ?_
    refine va_get (C := RNr) (T := TNr) (N := 10) (ci := 1) (v := .ref (a 1)) hx hb hg inNr hown hK hP 0 rfl rfl 0 (by decide) (hg _ f_Nr_11) (fun _ h9 => h9) rfl dNr_isYoung_1 ?_
    refine lv_iconst (v := 0) hx hb dNr_isYoung_4 (by decide) ?_
    refine va_aldq hx hb hK hP 1 1 rfl rfl (by unfold vp_in; decide) dNr_isYoung_5 ?_
    refine gx_stk (st' := [.ref (a (2 + 0))]) rfl ?_
    refine lv_iload_n hx hb dNr_isYoung_6 rfl (lv_at hl 1 rfl) ?_
    refine gx_callp (C := "NurseryRow$Part") (As := [.int x]) (rest := []) E (nr_liftp (i := 0) (by decide) (qPt_covers l D _ (a (2 + 0)) (σ.p 0) x)) (gx_cwV hts l_Nr_153 k_Pt_covers ki_Pt_covers ke_Pt_covers z_Pt n_Pt_covers ⟨by decide, by decide⟩) hK hP hD (va_recv hK hP (ci := 0) (q0 := 2) rfl rfl) hl.1 rfl rfl (Nat.le_of_ble_eq_true rfl) ⟨Nat.zero_le _, Nat.zero_le _⟩ dNr_isYoung_7 ?_
    refine gx_top (z := ptCov (σ.P 0 0) (σ.P 0 2) x) rfl ?_
    refine lv_if_ne (tgt := 31) hx hb dNr_isYoung_10 (by decide) (fun c_10 => ?_) (fun c_10 => ?_)
    · refine lv_iconst (v := 1) hx hb dNr_isYoung_31 (by decide) ?_
      refine lv_goto (tgt := 36) hx hb dNr_isYoung_32 (by decide) ?_
      exact gx_zret E rfl (by simp [isY, c_10]) dNr_isYoung_36
    · refine lv_aload_n hx hb dNr_isYoung_13 rfl (lv_at hl 0 rfl) ?_
      refine va_get (C := RNr) (T := TNr) (N := 10) (ci := 1) (v := .ref (a 1)) hx hb hg inNr hown hK hP 0 rfl rfl 0 (by decide) (hg _ f_Nr_11) (fun _ h9 => h9) rfl dNr_isYoung_14 ?_
      refine lv_iconst (v := 1) hx hb dNr_isYoung_17 (by decide) ?_
      refine lv_aload_n hx hb dNr_isYoung_18 rfl (lv_at hl 0 rfl) ?_
      refine va_get (C := RNr) (T := TNr) (N := 10) (ci := 1) (v := .int (σ.F 2)) hx hb hg inNr hown hK hP 0 rfl rfl 6 (by decide) (hg _ f_Nr_58) (fun _ h9 => h9) rfl dNr_isYoung_19 ?_
      refine gx_top (z := 0) hrw ?_
      refine lv_iadd hx hb dNr_isYoung_22 ?_
      refine gx_top (z := 1) (by decide) ?_
      refine va_aldq hx hb hK hP 1 1 rfl rfl (by unfold vp_in; decide) dNr_isYoung_23 ?_
      refine gx_stk (st' := [.ref (a (2 + 1))]) rfl ?_
      refine lv_iload_n hx hb dNr_isYoung_24 rfl (lv_at hl 1 rfl) ?_
      refine gx_callp (C := "NurseryRow$Part") (As := [.int x]) (rest := []) E (nr_liftp (i := 1) (by decide) (qPt_covers l D _ (a (2 + 1)) (σ.p 1) x)) (gx_cwV hts l_Nr_153 k_Pt_covers ki_Pt_covers ke_Pt_covers z_Pt n_Pt_covers ⟨by decide, by decide⟩) hK hP hD (va_recv hK hP (ci := 0) (q0 := 3) rfl rfl) hl.1 rfl rfl (Nat.le_of_ble_eq_true rfl) ⟨Nat.zero_le _, Nat.zero_le _⟩ dNr_isYoung_25 ?_
      refine gx_top (z := ptCov (σ.P 1 0) (σ.P 1 2) x) rfl ?_
      refine lv_if_eq (tgt := 35) hx hb dNr_isYoung_28 (by decide) (fun c_28 => ?_) (fun c_28 => ?_)
      · refine lv_iconst (v := 0) hx hb dNr_isYoung_35 (by decide) ?_
        exact gx_zret E rfl (by simp [isY, c_10, c_28]) dNr_isYoung_36
      · refine lv_iconst (v := 1) hx hb dNr_isYoung_31 (by decide) ?_
        refine lv_goto (tgt := 36) hx hb dNr_isYoung_32 (by decide) ?_
        exact gx_zret E rfl (by simp [isY, c_10, c_28]) dNr_isYoung_36
  · refine lv_aload_n hx hb dNr_isYoung_0 rfl (lv_at hl 0 rfl) ?_
    refine va_get (C := RNr) (T := TNr) (N := 10) (ci := 1) (v := .ref (a 1)) hx hb hg inNr hown hK hP 0 rfl rfl 0 (by decide) (hg _ f_Nr_11) (fun _ h9 => h9) rfl dNr_isYoung_1 ?_
    refine lv_iconst (v := 0) hx hb dNr_isYoung_4 (by decide) ?_
    refine va_aldq hx hb hK hP 1 1 rfl rfl (by unfold vp_in; decide) dNr_isYoung_5 ?_
    refine gx_stk (st' := [.ref (a (2 + 0))]) rfl ?_
    refine lv_iload_n hx hb dNr_isYoung_6 rfl (lv_at hl 1 rfl) ?_
    refine gx_callp (C := "NurseryRow$Part") (As := [.int x]) (rest := []) E (nr_liftp (i := 0) (by decide) (qPt_covers l D _ (a (2 + 0)) (σ.p 0) x)) (gx_cwV hts l_Nr_153 k_Pt_covers ki_Pt_covers ke_Pt_covers z_Pt n_Pt_covers ⟨by decide, by decide⟩) hK hP hD (va_recv hK hP (ci := 0) (q0 := 2) rfl rfl) hl.1 rfl rfl (Nat.le_of_ble_eq_true rfl) ⟨Nat.zero_le _, Nat.zero_le _⟩ dNr_isYoung_7 ?_
    refine gx_top (z := ptCov (σ.P 0 0) (σ.P 0 2) x) rfl ?_
    refine lv_if_ne (tgt := 31) hx hb dNr_isYoung_10 (by decide) (fun c_10 => ?_) (fun c_10 => ?_)
    · refine lv_iconst (v := 1) hx hb dNr_isYoung_31 (by decide) ?_
      refine lv_goto (tgt := 36) hx hb dNr_isYoung_32 (by decide) ?_
      exact gx_zret E rfl (by simp [isY, c_10]) dNr_isYoung_36
    · refine lv_aload_n hx hb dNr_isYoung_13 rfl (lv_at hl 0 rfl) ?_
      refine va_get (C := RNr) (T := TNr) (N := 10) (ci := 1) (v := .ref (a 1)) hx hb hg inNr hown hK hP 0 rfl rfl 0 (by decide) (hg _ f_Nr_11) (fun _ h9 => h9) rfl dNr_isYoung_14 ?_
      refine lv_iconst (v := 1) hx hb dNr_isYoung_17 (by decide) ?_
      refine lv_aload_n hx hb dNr_isYoung_18 rfl (lv_at hl 0 rfl) ?_
      refine va_get (C := RNr) (T := TNr) (N := 10) (ci := 1) (v := .int (σ.F 2)) hx hb hg inNr hown hK hP 0 rfl rfl 6 (by decide) (hg _ f_Nr_58) (fun _ h9 => h9) rfl dNr_isYoung_19 ?_
      refine gx_top (z := 1) hrw ?_
      refine lv_iadd hx hb dNr_isYoung_22 ?_
      refine gx_top (z := 2) (by decide) ?_
      refine va_aldq hx hb hK hP 1 1 rfl rfl (by unfold vp_in; decide) dNr_isYoung_23 ?_
      refine gx_stk (st' := [.ref (a (2 + 2))]) rfl ?_
      refine lv_iload_n hx hb dNr_isYoung_24 rfl (lv_at hl 1 rfl) ?_
      refine gx_callp (C := "NurseryRow$Part") (As := [.int x]) (rest := []) E (nr_liftp (i := 2) (by decide) (qPt_covers l D _ (a (2 + 2)) (σ.p 2) x)) (gx_cwV hts l_Nr_153 k_Pt_covers ki_Pt_covers ke_Pt_covers z_Pt n_Pt_covers ⟨by decide, by decide⟩) hK hP hD (va_recv hK hP (ci := 0) (q0 := 4) rfl rfl) hl.1 rfl rfl (Nat.le_of_ble_eq_true rfl) ⟨Nat.zero_le _, Nat.zero_le _⟩ dNr_isYoung_25 ?_
      refine gx_top (z := ptCov (σ.P 2 0) (σ.P 2 2) x) rfl ?_
      refine lv_if_eq (tgt := 35) hx hb dNr_isYoung_28 (by decide) (fun c_28 => ?_) (fun c_28 => ?_)
      · refine lv_iconst (v := 0) hx hb dNr_isYoung_35 (by decide) ?_
        exact gx_zret E rfl (by simp [isY, c_10, c_28]) dNr_isYoung_36
      · refine lv_iconst (v := 1) hx hb dNr_isYoung_31 (by decide) ?_
        refine lv_goto (tgt := 36) hx hb dNr_isYoung_32 (by decide) ?_
        exact gx_zret E rfl (by simp [isY, c_10, c_28]) dNr_isYoung_36
