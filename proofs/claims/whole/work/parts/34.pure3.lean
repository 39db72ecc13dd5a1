/-! THE PURE HALF, 3: get, word, set, put, about, count -/
section STEPS2
variable {σ : nSt} {μ : mSt} {pp num : Nat → Nat → Nat} {c0 : Nat}
theorem SimP.dat (hs : SimP σ μ pp num c0) {k a nf nw st : Nat} (hk : k < 3600) (ht : th μ k) (ho : obM (fun _ => relM μ) σ.X μ a k nf nw st) : st + (nf + nw) ≤ 9800 := by
  have q := hs.2.2.2.2.2.2.2.2.1.2.1 k hk ht
  obtain ⟨-, s2, s3⟩ := ho.sz
  have := hs.few
  omega
theorem SimP.fld (hs : SimP σ μ pp num c0) (x f : Int32) : (fCl σ.X pp x f = 0 ∧ ∃ ko, objR μ x ko ∧ flM μ ko f < 0) ∨
    (∃ k a nf nw st j, fCl σ.X pp x f = nI (a + 3 + j) ∧ j < nf ∧ objR μ x (nI k) ∧ flM μ (nI k) f = nI (st + j) ∧ st + (nf + nw) ≤ 9800 ∧ a < 10241 ∧ k < 3600 ∧ th μ k ∧ μ.A 5 k = nI a ∧ obM (fun _ => relM μ) σ.X μ a k nf nw st) := by
  rcases hs.obj x with ⟨h1, i, j, k, a, nf, nw, st, -, -, -, -, hb, ha1, ha2, hk, ht, -, h5, ho, hO⟩ | ⟨h1, hO⟩
  · have d := hs.dat hk ht ho
    obtain ⟨⟨b1, b2⟩, ⟨b3, b4⟩, ⟨b5, b6, b7, b8, b9⟩, -⟩ := id ho
    have ex : x.toNatClampNeg = a := by rw [hb, nI_clamp (by omega)]
    have ek : (nI k).toNatClampNeg = k := nI_clamp (by omega)
    have o1 : ¬ isOb σ.X pp x = 0 := by rw [h1]; decide
    have hk0 : ¬ nI k < 0 := nI_pos (by omega)
    by_cases c1 : f < 0
    · left
      exact ⟨by simp only [fCl]; rw [if_neg o1, if_pos c1], nI k, hO, by simp only [flM]; rw [if_neg hk0, if_pos c1]; decide⟩
    · obtain ⟨j, hj, rfl⟩ := nI_of c1
      by_cases c2 : j < nf
      · right
        refine ⟨k, a, nf, nw, st, j, ?_, c2, hO, ?_, d, ha2, hk, ht, h5, ho⟩
        · simp only [fCl]
          rw [if_neg o1, if_neg c1, ex, b3, if_pos (nI_lt c2 (by omega)), hb, show (3 : Int32) = nI 3 from rfl, nI_add, nI_add]
        · simp only [flM]
          rw [if_neg hk0, if_neg c1, ek, b5, if_neg (nI_ge c2 (by omega)), b8, nI_add]
      · left
        refine ⟨?_, nI k, hO, ?_⟩
        · simp only [fCl]
          rw [if_neg o1, if_neg c1, ex, b3, if_neg (nI_nlt (by omega) hj)]
        · simp only [flM]
          rw [if_neg hk0, if_neg c1, ek, b5, if_pos (nI_le (by omega) hj)]; decide
  · left
    exact ⟨by simp only [fCl]; rw [if_pos h1], -1, hO, by simp only [flM]; rw [if_pos (by decide)]; decide⟩
theorem SimP.wrd (hs : SimP σ μ pp num c0) (x f : Int32) : (wCl σ.X pp x f = 0 ∧ ∃ ko, objR μ x ko ∧ wlM μ ko f < 0) ∨
    (∃ k a nf nw st j, wCl σ.X pp x f = nI (a + 3 + nf + j) ∧ j < nw ∧ objR μ x (nI k) ∧ wlM μ (nI k) f = nI (st + nf + j) ∧ st + (nf + nw) ≤ 9800 ∧ a < 10241 ∧ k < 3600 ∧ th μ k ∧ μ.A 5 k = nI a ∧ obM (fun _ => relM μ) σ.X μ a k nf nw st) := by
  rcases hs.obj x with ⟨h1, i, j, k, a, nf, nw, st, -, -, -, -, hb, ha1, ha2, hk, ht, -, h5, ho, hO⟩ | ⟨h1, hO⟩
  · have d := hs.dat hk ht ho
    obtain ⟨⟨b1, b2⟩, ⟨b3, b4⟩, ⟨b5, b6, b7, b8, b9⟩, -⟩ := id ho
    have ex : x.toNatClampNeg = a := by rw [hb, nI_clamp (by omega)]
    have ek : (nI k).toNatClampNeg = k := nI_clamp (by omega)
    have o1 : ¬ isOb σ.X pp x = 0 := by rw [h1]; decide
    have hk0 : ¬ nI k < 0 := nI_pos (by omega)
    by_cases c1 : f < 0
    · left
      exact ⟨by simp only [wCl]; rw [if_neg o1, if_pos c1], nI k, hO, by simp only [wlM]; rw [if_neg hk0, if_pos c1]; decide⟩
    · obtain ⟨j, hj, rfl⟩ := nI_of c1
      by_cases c2 : j < nw
      · right
        refine ⟨k, a, nf, nw, st, j, ?_, c2, hO, ?_, d, ha2, hk, ht, h5, ho⟩
        · simp only [wCl]
          rw [if_neg o1, if_neg c1, ex, b4, if_pos (nI_lt c2 (by omega)), hb, b3, show (3 : Int32) = nI 3 from rfl, nI_add, nI_add, nI_add]
        · simp only [wlM]
          rw [if_neg hk0, if_neg c1, ek, b6, if_neg (nI_ge c2 (by omega)), b8, b5, nI_add, nI_add]
      · left
        refine ⟨?_, nI k, hO, ?_⟩
        · simp only [wCl]
          rw [if_neg o1, if_neg c1, ex, b4, if_neg (nI_nlt (by omega) hj)]
        · simp only [wlM]
          rw [if_neg hk0, if_neg c1, ek, b6, if_pos (nI_le (by omega) hj)]; decide
  · left
    exact ⟨by simp only [wCl]; rw [if_pos h1], -1, hO, by simp only [wlM]; rw [if_pos (by decide)]; decide⟩
theorem st_get (h : Sim σ μ) (x f : Int32) : StepOK yNr_get cNr_get 4 (gRc 8 1 6) yMd_get cMd_get 4 [.int x, .int f] σ μ [(xNS, 1)] := by
  obtain ⟨pp, num, c0, hs⟩ := h
  rcases hs.fld x f with ⟨c, ko, hO, hn⟩ | ⟨k, a, nf, nw, st, j, c, hj, hO, hf, hd, ha, hk, ht, h5, ho⟩
  · exact ⟨_, _, 0, μ.sM 0 1, fun l hfl D cI cP a => qNr_get l hfl D cI cP a σ pp x f hs.inv, fun l D cI cZ b => qMd_get_no l D cI cZ b μ x f ko hO (not_not_intro hn), fun r u hp => absurd c hp.1, fun E hE => ⟨1, by rw [hE.1]; exact List.mem_singleton.mpr rfl, rfl, hs.t0 1⟩⟩
  · have hrel := ho.2.2.2.1 j hj
    have b1 := ho.1
    have cn : ¬ fCl σ.X pp x f = 0 := by rw [c]; exact nI_ne0 (by omega) (by omega)
    exact ⟨_, _, _, μ.sM 0 0, fun l hfl D cI cP a => qNr_get l hfl D cI cP a σ pp x f hs.inv, fun l D cI cZ b => qMd_get_ok l D cI cZ b μ x f (nI k) (st + j) hO (by omega) hf hrel.ok (by rw [hf]; exact nI_pos (by omega)), fun r u hp => ⟨rfl, by rw [hp.2.1, c, nI_clamp (by omega)]; exact (relM.to (μ := μ.sM 0 0) hrel).symm, by rw [hp.2.2]; exact hs.t0 0⟩, fun E hE => absurd hE.2 cn⟩
theorem st_word (h : Sim σ μ) (x f : Int32) : StepOK yNr_word cNr_word 4 (gRc 8 1 6) yMd_word cMd_word 4 [.int x, .int f] σ μ [(xNS, 1)] := by
  obtain ⟨pp, num, c0, hs⟩ := h
  rcases hs.wrd x f with ⟨c, ko, hO, hn⟩ | ⟨k, a, nf, nw, st, j, c, hj, hO, hf, hd, ha, hk, ht, h5, ho⟩
  · exact ⟨_, _, 0, μ.sM 0 1, fun l hfl D cI cP a => qNr_word l hfl D cI cP a σ pp x f hs.inv, fun l D cI cZ b => qMd_word_no l D cI cZ b μ x f ko hO (not_not_intro hn), fun r u hp => absurd c hp.1, fun E hE => ⟨1, by rw [hE.1]; exact List.mem_singleton.mpr rfl, rfl, hs.t0 1⟩⟩
  · have hrel := ho.2.2.2.2 j hj
    have b1 := ho.1
    have cn : ¬ wCl σ.X pp x f = 0 := by rw [c]; exact nI_ne0 (by omega) (by omega)
    exact ⟨_, _, _, μ.sM 0 0, fun l hfl D cI cP a => qNr_word l hfl D cI cP a σ pp x f hs.inv, fun l D cI cZ b => qMd_word_ok l D cI cZ b μ x f (nI k) (st + nf + j) hO (by omega) hf (by rw [hf]; exact nI_pos (by omega)), fun r u hp => ⟨rfl, by rw [hp.2.1, c, nI_clamp (by omega)]; exact hrel, by rw [hp.2.2]; exact hs.t0 0⟩, fun E hE => absurd hE.2 cn⟩
theorem st_put (h : Sim σ μ) (x f v : Int32) : StepOK yNr_put cNr_put 5 (gRc 8 1 6) yMd_put cMd_put 6 [.int x, .int f, .int v] σ μ [(xNS, 1)] := by
  obtain ⟨pp, num, c0, hs⟩ := h
  rcases hs.wrd x f with ⟨c, ko, hO, hn⟩ | ⟨k, a, nf, nw, st, j, c, hj, hO, hf, hd, ha, hk, ht, h5, ho⟩
  · exact ⟨_, _, 0, μ.sM 0 1, fun l hfl D cI cP a => qNr_put l hfl D cI cP a σ pp x f v hs.inv, fun l D cI cZ b => qMd_put_no l D cI cZ b μ x f v ko hO (not_not_intro hn), fun r u hp => absurd c hp.1, fun E hE => ⟨1, by rw [hE.1]; exact List.mem_singleton.mpr rfl, rfl, hs.t0 1⟩⟩
  · have hrel := ho.2.2.2.2 j hj
    have b1 := ho.1
    have cn : ¬ wCl σ.X pp x f = 0 := by rw [c]; exact nI_ne0 (by omega) (by omega)
    refine ⟨_, _, _, (μ.sM 0 0).sA 10 (upd (μ.A 10) (st + nf + j) v), fun l hfl D cI cP a => qNr_put l hfl D cI cP a σ pp x f v hs.inv, fun l D cI cZ b => qMd_put_ok l D cI cZ b μ x f v (nI k) (st + nf + j) hO (by omega) hf (by rw [hf]; exact nI_pos (by omega)), fun r u hp => ⟨rfl, by rw [hp.2.1, c, nI_clamp (by omega)]; exact hrel, ?_⟩, fun E hE => absurd hE.2 cn⟩
    rw [hp.2.2, c, nI_clamp (by omega)]
    exact ⟨pp, num, c0, hs.wr (e := nf + j) (x := v) (v := v) hk ht (by omega) h5 ho (by omega) (fun q => by omega) (fun _ => rfl) (fun q hq => sA_ne hq) (by rw [← Nat.add_assoc]; exact sA_eq) (fun q hq => sM_ne hq) rfl rfl rfl (by rw [← Nat.add_assoc]; rfl) rfl⟩
theorem st_set (h : Sim σ μ) (x f v : Int32) : StepOK yNr_set cNr_set 5 (gRc 8 1 6) yMd_set cMd_set 7 [.int x, .int f, .int v] σ μ [(xNS, 1)] := by
  obtain ⟨pp, num, c0, hs⟩ := h
  obtain ⟨k2, t1, t2, t3⟩ := hs.tgt v
  rcases hs.fld x f with ⟨c, ko, hO, hn⟩ | ⟨k, a, nf, nw, st, j, c, hj, hO, hf, hd, ha, hk, ht, h5, ho⟩
  · exact ⟨_, _, 0, μ.sM 0 1, fun l hfl D cI cP a => qNr_set l hfl D cI cP a σ pp x f v hs.inv, fun l D cI cZ b => qMd_set_no l D cI cZ b μ x f v ko k2 hO t1 (fun z => z.1 hn), fun r u hp => absurd c hp.1, fun E hE => ⟨1, by rw [hE.1]; exact List.mem_singleton.mpr rfl, rfl, hs.t0 1⟩⟩
  · have hrel := ho.2.2.2.1 j hj
    have b1 := ho.1
    have cn : ¬ fCl σ.X pp x f = 0 := by rw [c]; exact nI_ne0 (by omega) (by omega)
    by_cases cv : isNO σ.X pp v = 0
    · refine ⟨_, _, 0, μ.sM 0 1, fun l hfl D cI cP a => qNr_set l hfl D cI cP a σ pp x f v hs.inv, fun l D cI cZ b => qMd_set_no l D cI cZ b μ x f v (nI k) k2 hO t1 (fun z => ?_), fun r u hp => absurd cv hp.2.1, fun E hE => ⟨1, by rw [hE.1]; exact List.mem_singleton.mpr rfl, rfl, hs.t0 1⟩⟩
      have q := t2 cv
      rcases z.2 with u | u
      · exact q.1 u
      · rw [q.2] at u; exact u (by decide)
    · have q := t3 cv
      refine ⟨_, _, _, (μ.sM 0 0).sA 10 (upd (μ.A 10) (st + j) (if v = 0 then 0 else k2 + 1)), fun l hfl D cI cP a => qNr_set l hfl D cI cP a σ pp x f v hs.inv, fun l D cI cZ b => qMd_set_ok l D cI cZ b μ x f v (nI k) k2 (st + j) hO t1 (by omega) hf hrel.ok ⟨by rw [hf]; exact nI_pos (by omega), q.1⟩, fun r u hp => ⟨rfl, ?_, ?_⟩, fun E hE => hE.2.elim (fun w => absurd w cn) (fun w => absurd w cv)⟩
      · rw [hp.2.2.1, c, nI_clamp (by omega)]; exact (relM.to (μ := (μ.sM 0 0).sA 10 (upd (μ.A 10) (st + j) (if v = 0 then 0 else k2 + 1))) hrel).symm
      · rw [hp.2.2.2, c, nI_clamp (by omega)]
        exact ⟨pp, num, c0, hs.wr (e := j) (x := v) (v := if v = 0 then 0 else k2 + 1) hk ht (by omega) h5 ho (by omega) (fun _ => q.2) (fun w => by omega) (fun q hq => sA_ne hq) sA_eq (fun q hq => sM_ne hq) rfl rfl rfl rfl rfl⟩
theorem st_about (h : Sim σ μ) (x w : Int32) : StepOK yNr_about cNr_about 3 (gRc 8 1 6) yMd_about cMd_about 4 [.int x, .int w] σ μ [(xNS, 1), (xIA, 2)] := by
  obtain ⟨pp, num, c0, hs⟩ := h
  rcases hs.obj x with ⟨h1, i, j, k, a, nf, nw, st, hi, hj, hnum, hac, hb, ha1, ha2, hk, ht, h4, h5, ho, hO⟩ | ⟨h1, hO⟩
  · have o1 : ¬ isOb σ.X pp x = 0 := by rw [h1]; decide
    have hk0 : ¬ nI k < 0 := nI_pos (by omega)
    by_cases c : ¬ w < 0 ∧ ¬ 3 < w
    · refine ⟨_, _, _, μ.sM 0 0, fun l hfl D cI cP a => qNr_about l hfl D cI cP a σ pp x w hs.inv, fun l D cI cZ b => qMd_about_ok l D cI cZ b μ x w k hO hk c, fun r u hp => ⟨rfl, ?_, ?_⟩, fun E hE => ?_⟩
      · obtain ⟨-, q, hq, rfl, rfl, -⟩ := hp
        have ex : x.toNatClampNeg = a := by rw [hb, nI_clamp (by omega)]
        obtain ⟨-, ⟨b3, b4⟩, ⟨b5, b6, b7, -⟩, -⟩ := ho
        rcases (show q = 0 ∨ q = 1 ∨ q = 2 ∨ q = 3 by omega) with rfl | rfl | rfl | rfl
        · simp only [abA]; rw [ex, ← b7]; rfl
        · simp only [abA]; rw [ex, b3, ← b5]; rfl
        · simp only [abA]; rw [ex, b4, ← b6]; rfl
        · simp only [abA]; rw [hb, hac, pOf_at hs.inv hi hj, ← h4]; rfl
      · obtain ⟨-, q, -, -, -, e⟩ := hp
        rw [e]; exact hs.t0 0
      · rcases hE with hE | ⟨-, -, hE⟩
        · exact absurd hE.2 o1
        · obtain ⟨q, hq, rfl⟩ := nI_of c.1
          rw [nI_toInt hq] at hE
          have : ¬ 3 < q := fun z => c.2 (show nI 3 < nI q from nI_lt z hq)
          omega
    · refine ⟨_, _, 0, μ.sM 0 2, fun l hfl D cI cP a => qNr_about l hfl D cI cP a σ pp x w hs.inv, fun l D cI cZ b => qMd_about_no2 l D cI cZ b μ x w (nI k) hO hk0 c, fun r u hp => ?_, fun E hE => ?_⟩
      · obtain ⟨-, q, hq, rfl, -⟩ := hp
        exact absurd ⟨nI_pos (by omega), nI_nlt (b := q) (a := 3) (by omega) (by omega)⟩ c
      · rcases hE with hE | hE
        · exact absurd hE.2 o1
        · exact ⟨2, by rw [hE.1]; exact List.mem_cons_of_mem _ (List.mem_singleton.mpr rfl), rfl, hs.t0 2⟩
  · refine ⟨_, _, 0, μ.sM 0 1, fun l hfl D cI cP a => qNr_about l hfl D cI cP a σ pp x w hs.inv, fun l D cI cZ b => qMd_about_no1 l D cI cZ b μ x w (-1) hO (by decide), fun r u hp => absurd h1 hp.1, fun E hE => ?_⟩
    rcases hE with hE | hE
    · exact ⟨1, by rw [hE.1]; exact List.mem_cons_self, rfl, hs.t0 1⟩
    · exact absurd h1 hE.2.1
theorem st_count (h : Sim σ μ) (w : Int32) : StepOK yNr_count cNr_count 2 (gRc 8 1 6) yMd_count cMd_count 2 [.int w] σ μ [(xIA, 1)] := by
  obtain ⟨pp, num, c0, hs⟩ := h
  have hsc := hs.2.1
  have hc1 : c0 ≤ 1 := hsc.2.2.1
  have hM1 : μ.M 1 = nI (1 + c0) := hsc.2.2.2.2.1
  by_cases c : ¬ w < 0 ∧ ¬ 9 < w
  · obtain ⟨q, hq, rfl⟩ := nI_of c.1
    have q9 : q ≤ 9 := Nat.not_lt.mp fun z => c.2 (show nI 9 < nI q from nI_lt z hq)
    have hct : ∀ i, i < 4 → nI (cntM μ.A (nI i) 3600) = σ.P i 3 := fun i hi => by
      rw [cntM_sm, hsc.1 i hi 3 (by omega)]; exact congrArg nI (hs.2.2.2.2.2.2.2.1 i hi).1
    have htp : ∀ i, i < 4 → μ.A 2 i - μ.A 0 i = σ.P i 2 := fun i hi => by
      rw [hs.2.2.1 i hi, (hsc.2.1 i hi).1, pk_sub (by omega), hsc.1 i hi 2 (by omega)]; congr 1; omega
    refine ⟨_, _, cnM μ (1 + c0) q, μ.sM 0 0, fun l hfl D cI cP a => qNr_count l hfl D cI cP a σ c0 (nI q) hs.rw, fun l D cI cZ b => (qMd_count_ok l D cI cZ b μ (nI q) (1 + c0) ⟨hM1, by omega⟩ c).mono (fun r u hp => ?_), fun r u hp => ⟨rfl, ?_, ?_⟩, fun E hE => ?_⟩
    · obtain ⟨j, hj, e, hr, hu⟩ := hp
      have : q = j := (nI_eq hq (by omega)).mp e
      subst this; exact ⟨hr, hu⟩
    · obtain ⟨j, hj, e, rfl, -⟩ := hp
      have : q = j := (nI_eq hq (by omega)).mp e
      subst this
      rcases (show q = 0 ∨ q = 1 ∨ q = 2 ∨ q = 3 ∨ q = 4 ∨ q = 5 ∨ q = 6 ∨ q = 7 ∨ q = 8 ∨ q = 9 by omega) with rfl | rfl | rfl | rfl | rfl | rfl | rfl | rfl | rfl | rfl
      · exact (hct 0 (by omega)).symm
      · simp only [cnA, cnM]; rw [hM1]; exact (hct (1 + c0) (by omega)).symm
      · exact (hct 3 (by omega)).symm
      · exact (htp 0 (by omega)).symm
      · exact (htp (1 + c0) (by omega)).symm
      · exact (htp 3 (by omega)).symm
      · exact hsc.2.2.2.2.2.2.1.symm
      · exact hsc.2.2.2.2.2.2.2.1.symm
      · exact hsc.2.2.2.2.2.2.2.2.symm
      · simp only [cnA, cnM]; rw [hM1, hsc.2.2.2.1, show (1 : Int32) = nI 1 from rfl, pk_sub (by omega)]; congr 1; omega
    · obtain ⟨j, -, -, -, e⟩ := hp
      rw [e]; exact hs.t0 0
    · have := hE.2
      rw [nI_toInt hq] at this; omega
  · refine ⟨_, _, 0, μ.sM 0 1, fun l hfl D cI cP a => qNr_count l hfl D cI cP a σ c0 w hs.rw, fun l D cI cZ b => qMd_count_no l D cI cZ b μ w c, fun r u hp => ?_, fun E hE => ⟨1, by rw [hE.1]; exact List.mem_singleton.mpr rfl, rfl, hs.t0 1⟩⟩
    obtain ⟨j, hj, rfl, -⟩ := hp
    exact absurd ⟨nI_pos (by omega), nI_nlt (b := j) (a := 9) (by omega) (by omega)⟩ c
end STEPS2
