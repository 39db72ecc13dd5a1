/-! THE PURE HALF, 5: make, space, the start -/
section MAKE
variable {σ : nSt} {μ : mSt} {pp num : Nat → Nat → Nat} {c0 : Nat}
theorem least {P : Nat → Prop} : ∀ n, (∃ k, k < n ∧ P k) → ∃ k, k < n ∧ P k ∧ ∀ j, j < k → ¬ P j
  | 0, ⟨k, hk, _⟩ => absurd hk (Nat.not_lt_zero _)
  | n + 1, ⟨k, hk, hP⟩ => by
    by_cases c : ∃ k, k < n ∧ P k
    · obtain ⟨k', h1, h2, h3⟩ := least n c
      exact ⟨k', by omega, h2, h3⟩
    · refine ⟨k, hk, hP, fun j hj hp => c ⟨j, by omega, hp⟩⟩
theorem SimP.free (hs : SimP σ μ pp num c0) : ∃ k, k < 3600 ∧ μ.A 3 k = 0 ∧ ∀ j, j < k → ¬ μ.A 3 j = 0 := by
  refine least (P := fun k => μ.A 3 k = 0) 3600 (Classical.byContradiction fun hn => ?_)
  have hL := hs.2.2.2.2.1
  have hS := hs.2.2.2.2.2.2.2.1
  have q : smF (fun _ => 1) 3600 ≤ smF (fun k => ctf μ (nI 0) k + ctf μ (nI 1) k + ctf μ (nI 2) k + ctf μ (nI 3) k) 3600 := smF_le 3600 (fun k hk => by
    have t3 : ¬ μ.A 3 k = 0 := fun z => hn ⟨k, hk, z⟩
    obtain ⟨i, a, hi, -, h4, -⟩ := hL.at hs.1 hk t3
    have e : ctf μ (nI i) k = 1 := if_pos ⟨t3, h4⟩
    rcases (show i = 0 ∨ i = 1 ∨ i = 2 ∨ i = 3 by omega) with rfl | rfl | rfl | rfl <;> omega)
  rw [smF_ones, smF_add, smF_add, smF_add] at q
  have z0 : smF (ctf μ (nI 0)) 3600 = pp 0 3 := (hS 0 (by omega)).1
  have z1 : smF (ctf μ (nI 1)) 3600 = pp 1 3 := (hS 1 (by omega)).1
  have z2 : smF (ctf μ (nI 2)) 3600 = pp 2 3 := (hS 2 (by omega)).1
  have z3 : smF (ctf μ (nI 3)) 3600 = pp 3 3 := (hS 3 (by omega)).1
  have f0 := (hL.1 0 (by omega)).2.few
  have f1 := (hL.1 1 (by omega)).2.few
  have f2 := (hL.1 2 (by omega)).2.few
  have f3 := (hL.1 3 (by omega)).2.few
  obtain ⟨-, ⟨u0, u1, u2, u3⟩, m0, m1, m2, m3⟩ := hs.1
  omega
/-- one number more: a sum -/
theorem smF_new {f g : Nat → Nat} {k d : Nat} (hk : k < 3600) (h : ∀ j, j ≠ k → g j = f j) (h0 : f k = 0) (h1 : g k = d) : smF g 3600 = smF f 3600 + d := by
  have := smF_one h 3600
  rw [if_pos hk, if_pos hk, h0, h1] at this
  omega
theorem SimP.mk (hs : SimP σ μ pp num c0) {k nf nw : Nat} (hf : nf ≤ 200) (hw : nw ≤ 200) (hk : k < 3600) (h0 : μ.A 3 k = 0) (hr : pp 0 2 + (3 + nf + nw) ≤ pp 0 1) :
    SimP (mkS σ (nI nf) (nI nw) (3 + nf + nw) (pp 0 0 + pp 0 2)) (mkM μ k (nI nf) (nI nw) (tdN μ 3600) (nf + nw)) (puP pp 0 (3 + nf + nw)) (puN num 0 (pp 0 3) k) c0 := by
  have hfew := hs.few
  obtain ⟨hg, ⟨h2, h3, h4, h5, h6, h7, h8, h9, h10⟩, h11, h12, h13, hC, hR, h14, h15, h16, h17⟩ := hs
  obtain ⟨ν, hν⟩ : ∃ ν, ν = mkM μ k (nI nf) (nI nw) (tdN μ 3600) (nf + nw) := ⟨_, rfl⟩
  obtain ⟨τ, hτ⟩ : ∃ τ, τ = mkS σ (nI nf) (nI nw) (3 + nf + nw) (pp 0 0 + pp 0 2) := ⟨_, rfl⟩
  rw [← hν, ← hτ]
  have a0 : ν.A 0 = μ.A 0 := by rw [hν]; rfl
  have a1 : ν.A 1 = μ.A 1 := by rw [hν]; rfl
  have a2 : ν.A 2 = upd (μ.A 2) 0 (μ.A 2 0 + (3 + nI nf + nI nw)) := by rw [hν]; rfl
  have a3 : ν.A 3 = upd (μ.A 3) k 1 := by rw [hν]; rfl
  have a4 : ν.A 4 = upd (μ.A 4) k 0 := by rw [hν]; rfl
  have a5 : ν.A 5 = upd (μ.A 5) k (μ.A 2 0) := by rw [hν]; rfl
  have a6 : ν.A 6 = upd (μ.A 6) k 0 := by rw [hν]; rfl
  have a7 : ν.A 7 = upd (μ.A 7) k (nI nf) := by rw [hν]; rfl
  have a8 : ν.A 8 = upd (μ.A 8) k (nI nw) := by rw [hν]; rfl
  have a9 : ν.A 9 = upd (μ.A 9) k (μ.M 3) := by rw [hν]; rfl
  have a10 : ν.A 10 = fillF (μ.A 10) (tdN μ 3600) (tdN μ 3600 + (nf + nw)) 0 := by rw [hν]; rfl
  have a12 : ν.A 12 = μ.A 12 := by rw [hν]; rfl
  have a15 : ν.A 15 = μ.A 15 := by rw [hν]; rfl
  have m1 : ν.M 1 = μ.M 1 := by rw [hν]; rfl
  have m2 : ν.M 2 = μ.M 2 := by rw [hν]; rfl
  have m3 : ν.M 3 = nI (tdN μ 3600 + (nf + nw)) := by rw [hν]; rfl
  have m4 : ν.M 4 = μ.M 4 := by rw [hν]; rfl
  have m6 : ν.M 6 = μ.M 6 := by rw [hν]; rfl
  have m7 : ν.M 7 = μ.M 7 := by rw [hν]; rfl
  have m8 : ν.M 8 = μ.M 8 := by rw [hν]; rfl
  have sF : τ.F = σ.F := by rw [hτ]; rfl
  have sR : τ.R = σ.R := by rw [hτ]; rfl
  have sN : τ.N = σ.N := by rw [hτ]; rfl
  have sX : τ.X = upd (upd (fillF σ.X (pp 0 0 + pp 0 2) (pp 0 0 + pp 0 2 + (3 + nf + nw)) 0) (pp 0 0 + pp 0 2) (nI nf)) (pp 0 0 + pp 0 2 + 1) (nI nw) := by rw [hτ]; rfl
  have sP : τ.P = upP σ.P 0 (σ.P 0 0, σ.P 0 1, σ.P 0 2 + nI (3 + nf + nw), σ.P 0 3 + 1) := by rw [hτ]; rfl
  have e3 : (3 : Int32) + nI nf + nI nw = nI (3 + nf + nw) := by rw [show (3 : Int32) = nI 3 from rfl, nI_add, nI_add]
  have b2 : μ.A 2 0 = nI (pp 0 0 + pp 0 2) := h11 0 (by omega)
  obtain ⟨b, hb⟩ : ∃ b, b = pp 0 0 + pp 0 2 := ⟨_, rfl⟩
  obtain ⟨sz, hsz⟩ : ∃ sz, sz = 3 + nf + nw := ⟨_, rfl⟩
  rw [← hb] at b2 sX
  rw [← hsz] at e3 sX sP hr ⊢
  rw [e3, b2] at a2
  rw [b2] at a5
  have g0 := hg.at (i := 0) (by omega)
  -- the cells
  have xo : ∀ c, c < b ∨ b + sz ≤ c → τ.X c = σ.X c := fun c hc => by
    rw [sX, pk_un (by omega), pk_un (by omega)]
    simp only [fillF]; rw [if_neg (by omega)]
  have x0 : τ.X b = nI nf := by rw [sX, pk_un (by omega), pk_us]
  have x1 : τ.X (b + 1) = nI nw := by rw [sX, pk_us]
  have xz : ∀ c, b + 2 ≤ c → c < b + sz → τ.X c = 0 := fun c c1 c2 => by
    rw [sX, pk_un (by omega), pk_un (by omega)]
    simp only [fillF]; rw [if_pos (by omega)]
  have out : ∀ i c, i < 4 → pp i 0 ≤ c → c < pp i 0 + pp i 2 → τ.X c = σ.X c := fun i c hi c1 c2 => xo c (by
    have gi := hg.at hi
    rcases Nat.eq_zero_or_pos i with q | q
    · subst q; omega
    · have := hg.ord q hi; omega)
  have hX : ∀ i j, i < 4 → j < pp i 3 → τ.X (ch σ.X (pp i 0) j) = σ.X (ch σ.X (pp i 0) j) ∧ τ.X (ch σ.X (pp i 0) j + 1) = σ.X (ch σ.X (pp i 0) j + 1) := fun i j hi hj => by
    have r := h13.rng hg hi hj
    have s := szX_3 σ.X (ch σ.X (pp i 0) j)
    exact ⟨out i _ hi (by omega) (by omega), out i _ hi (by omega) (by omega)⟩
  -- who is there
  have t3 : ∀ j, j ≠ k → ν.A 3 j = μ.A 3 j := fun j hj => by rw [a3, pk_un hj]
  have tk : ¬ ν.A 3 k = 0 := by rw [a3, pk_us]; decide
  have hne : ∀ j, th μ j → j ≠ k := fun j hj e => hj (by rw [e]; exact h0)
  have hth : ∀ j, j < 3600 → (th ν j ↔ (th μ j ∨ j = k)) := fun j hj => by
    by_cases q : j = k
    · subst q; exact ⟨fun _ => Or.inr rfl, fun _ => tk⟩
    · simp only [th]; rw [t3 j q]; exact ⟨Or.inl, fun w => w.resolve_right q⟩
  have rel : ∀ x v, relM μ x v → relM ν x v := fun x v h => by
    rcases h with h | ⟨j, hj, ht, hv, hx⟩
    · exact Or.inl h
    · refine Or.inr ⟨j, hj, (hth j hj).mpr (Or.inl ht), hv, ?_⟩
      rw [a5, pk_un (hne j ht)]; exact hx
  have ln : ∀ j, j ≠ k → lnM ν j = lnM μ j := fun j hj => by simp only [lnM]; rw [a7, a8, pk_un hj, pk_un hj]
  have st : ∀ j, j ≠ k → stM ν j = stM μ j := fun j hj => by simp only [stM]; rw [a9, pk_un hj]
  have lk : lnM ν k = nf + nw := by simp only [lnM]; rw [a7, a8, pk_us, pk_us, nI_clamp (by omega), nI_clamp (by omega)]
  have sk : stM ν k = tdN μ 3600 := by simp only [stM]; rw [a9, pk_us, h15.1, nI_clamp (by omega)]
  have hT : tdN ν 3600 = tdN μ 3600 + (nf + nw) := by
    rw [tdN_sm, tdN_sm]
    refine smF_new hk (fun j hj => ?_) (if_pos h0) (by simp only [tdf]; rw [if_neg tk, lk])
    simp only [tdf]; rw [t3 j hj, ln j hj]
  have n02 : 2 - c0 ≠ 0 := by omega
  refine ⟨?_, ⟨fun i hi j hj => ?_, fun i hi => ?_, h4, ?_, m1.trans h6, ?_, ?_, ?_, ?_⟩, fun i hi => ?_, ?_, ?_, fun k' hk' ht' => ?_, fun i hi => ?_, fun i hi => ?_, ⟨by rw [m3, hT], fun k' hk' ht' => ?_, fun k1 k2 hk1 hk2 ht1 ht2 hn => ?_⟩, ?_, fun j hj => ?_⟩
  · rw [sN]; exact hg.push (by omega) hr
  · rw [sP]
    by_cases q : i = 0
    · subst q
      rcases (show j = 0 ∨ j = 1 ∨ j = 2 ∨ j = 3 by omega) with rfl | rfl | rfl | rfl
      · rw [puP_0]; exact h2 0 (by omega) 0 (by omega)
      · rw [puP_1]; exact h2 0 (by omega) 1 (by omega)
      · rw [puP_2, ← nI_add, ← h2 0 (by omega) 2 (by omega)]; rfl
      · rw [puP_3, ← nI_1, ← h2 0 (by omega) 3 (by omega)]; rfl
    · rw [puP_ne q]
      have : upP σ.P 0 (σ.P 0 0, σ.P 0 1, σ.P 0 2 + nI sz, σ.P 0 3 + 1) i j = σ.P i j := if_neg q
      rw [this]; exact h2 i hi j hj
  · rw [a0, a1, puP_0, puP_1]; exact h3 i hi
  · rw [sF]; exact h5
  · rw [m2, sF]; exact h7
  · rw [m6, sF]; exact h8
  · rw [m7, sF]; exact h9
  · rw [m8, sF]; exact h10
  · rw [a2, puP_0]
    by_cases q : i = 0
    · subst q; rw [pk_us, puP_2, nI_add, hb]; congr 1; omega
    · rw [pk_un q, puP_ne q]; exact h11 i hi
  · rw [puP_ne n02, puP_ne n02]; exact h12
  · rw [hsz]
    exact h13.push (i0 := 0) (show 0 < 4 by omega) hk hf hw hX (by rw [← hb]; exact x0) (by rw [← hb]; exact x1) hth (fun j hj ht => by rw [a4, a5, pk_un (hne j ht), pk_un (hne j ht)]; exact ⟨rfl, rfl⟩) (by rw [a4, pk_us]; rfl) (by rw [a5, pk_us, hb])
  · by_cases q : k' = k
    · subst q
      refine ⟨b, nf, nw, tdN μ 3600, by omega, by rw [a5, pk_us], ⟨hf, hw⟩, ⟨x0, x1⟩, ⟨by rw [a7, pk_us], by rw [a8, pk_us], by rw [a6, pk_us, xz _ (by omega) (by omega)], by rw [a9, pk_us]; exact h15.1, by omega⟩, fun t ht => Or.inl ⟨xz _ (by omega) (by omega), ?_⟩, fun t ht => ?_⟩
      · rw [a10]; simp only [fillF]; rw [if_pos (by omega)]
      · rw [xz _ (by omega) (by omega), a10]; simp only [fillF]; rw [if_pos (by omega)]
    · have htm := ((hth k' hk').mp ht').resolve_right q
      obtain ⟨a, nf', nw', st', c1, c2, c3⟩ := hC k' hk' htm
      obtain ⟨s1, s2, s3⟩ := c3.sz
      have dd := h15.2.1 k' hk' htm
      obtain ⟨i, a', hi, hi4, -, e5, r1, r2, -⟩ := h13.at hg hk' htm
      have sa := szX_3 σ.X a'
      have gi := hg.at hi4
      have ea : a = a' := (nI_eq c1 (by omega)).mp (c2.symm.trans e5)
      subst ea
      refine ⟨a, nf', nw', st', c1, by rw [a5, pk_un q]; exact c2, c3.congr (fun c d1 d2 => out i c hi4 (by omega) (by omega)) ⟨by rw [a7, pk_un q], by rw [a8, pk_un q], by rw [a6, pk_un q], by rw [a9, pk_un q]⟩ (fun t ht => ?_) (fun _ x v _ w => rel x v w)⟩
      rw [a10]; simp only [fillF]; rw [if_neg (by omega)]
  · rw [sR, a15]; exact rel _ _ (hR i hi)
  · have c1 : ∀ a, ∀ j, j ≠ k → ctf ν a j = ctf μ a j := fun a j hj => by simp only [ctf]; rw [t3 j hj, a4, pk_un hj]
    have c2 : ∀ a, ∀ j, j ≠ k → szf ν a j = szf μ a j := fun a j hj => by simp only [szf]; rw [t3 j hj, a4, pk_un hj, ln j hj]
    have c3 : ∀ a, ctf μ a k = 0 := fun a => if_neg (fun z => z.1 h0)
    have c4 : ∀ a, szf μ a k = 0 := fun a => if_neg (fun z => z.1 h0)
    have e4 : ν.A 4 k = nI 0 := by rw [a4, pk_us]; rfl
    by_cases q : i = 0
    · subst q
      rw [puP_2, puP_3]
      refine ⟨(smF_new hk (c1 _) (c3 _) (if_pos ⟨tk, e4⟩)).trans (by rw [← (h14 0 (by omega)).1]; rfl), (smF_new hk (c2 _) (c4 _) (if_pos ⟨tk, e4⟩)).trans ?_⟩
      have w : smF (szf μ (nI 0)) 3600 = pp 0 2 := (h14 0 (by omega)).2
      rw [lk, w]; omega
    · rw [puP_ne q, puP_ne q]
      have n4 : ¬ ν.A 4 k = nI i := by rw [e4]; exact fun z => q ((nI_eq (by omega) (by omega)).mp z).symm
      exact ⟨(smF_new hk (c1 _) (c3 _) (if_neg (fun z => n4 z.2))).trans (by rw [Nat.add_zero]; exact (h14 i hi).1), (smF_new hk (c2 _) (c4 _) (if_neg (fun z => n4 z.2))).trans (by rw [Nat.add_zero]; exact (h14 i hi).2)⟩
  · rw [hT]
    by_cases q : k' = k
    · subst q; rw [lk, sk]; exact Nat.le_refl _
    · have := h15.2.1 k' hk' (((hth k' hk').mp ht').resolve_right q)
      rw [ln k' q, st k' q]; omega
  · by_cases q1 : k1 = k
    · subst q1
      have := h15.2.1 k2 hk2 (((hth k2 hk2).mp ht2).resolve_right (Ne.symm hn))
      rw [ln k2 (Ne.symm hn), st k2 (Ne.symm hn), sk]; omega
    · have u1 := ((hth k1 hk1).mp ht1).resolve_right q1
      by_cases q2 : k2 = k
      · subst q2
        have := h15.2.1 k1 hk1 u1
        rw [ln k1 q1, st k1 q1, sk]; omega
      · rw [ln k1 q1, st k1 q1, ln k2 q2, st k2 q2]
        exact h15.2.2 k1 k2 hk1 hk2 u1 (((hth k2 hk2).mp ht2).resolve_right q2) hn
  · rw [m4, puP_ne (by omega)]; exact h16
  · rw [puP_ne (by omega)] at hj
    rw [a12, h17 j hj]
    have : puN num 0 (pp 0 3) k 3 j = num 3 j := if_neg (fun z => absurd z.1 (by omega))
    rw [this]
theorem st_make (h : Sim σ μ) (x y : Int32) : StepOK yNr_make cNr_make 5 (gRc 8 1 6) yMd_make cMd_make 6 [.int x, .int y] σ μ [(xIA, 1)] := by
  obtain ⟨pp, num, c0, hs⟩ := h
  have g0 := hs.1.at (i := 0) (by omega)
  have hcl := fun (l : Launch) (hfl : l.stackTraces = false) (D : va_G) (cI cP : ClassId) (a : Nat → Nat) => qNr_make l hfl D cI cP a σ x y (pp 0 0) (pp 0 1) (pp 0 2) (hs.2.1.1 0 (by omega) 0 (by omega)) (hs.2.1.1 0 (by omega) 1 (by omega)) (hs.2.1.1 0 (by omega) 2 (by omega)) (by omega) (by omega) (by omega)
  by_cases c : isW x 0 200 = 0 ∨ isW y 0 200 = 0
  · refine ⟨_, _, 0, μ.sM 0 1, hcl, fun l D cI cZ b => qMd_make_no l D cI cZ b μ x y (fun z => ?_), fun r u hp => c.elim (fun w => absurd w hp.1.1) (fun w => absurd w hp.1.2), fun E hE => ⟨1, by rw [hE.1]; exact List.mem_singleton.mpr rfl, rfl, hs.t0 1⟩⟩
    rcases c with w | w
    · exact isW_z w ⟨z.1, z.2.1⟩
    · exact isW_z w ⟨z.2.2.1, z.2.2.2⟩
  · have cx : ¬ isW x 0 200 = 0 := fun w => c (Or.inl w)
    have cy : ¬ isW y 0 200 = 0 := fun w => c (Or.inr w)
    obtain ⟨nf, hxn, -, hnf⟩ := isW_ne (a := 0) (b := 200) cx rfl rfl (by omega) (by omega)
    obtain ⟨nw, hyn, -, hnw⟩ := isW_ne (a := 0) (b := 200) cy rfl rfl (by omega) (by omega)
    have hok : ¬ x < 0 ∧ ¬ 200 < x ∧ ¬ y < 0 ∧ ¬ 200 < y := ⟨(isW_y cx).1, (isW_y cx).2, (isW_y cy).1, (isW_y cy).2⟩
    have hcmp : μ.A 2 0 + (3 + x + y) = nI (pp 0 0 + pp 0 2 + (3 + nf + nw)) ∧ μ.A 0 0 + μ.A 1 0 = nI (pp 0 0 + pp 0 1) := by
      rw [hs.2.2.1 0 (by omega), (hs.2.1.2.1 0 (by omega)).1, (hs.2.1.2.1 0 (by omega)).2, hxn, hyn, show (3 : Int32) = nI 3 from rfl, nI_add, nI_add, nI_add, nI_add]
      exact ⟨rfl, rfl⟩
    by_cases r : pp 0 2 + (3 + nf + nw) ≤ pp 0 1
    · obtain ⟨k, hk, h0, h1⟩ := hs.free
      have hfew := hs.few
      refine ⟨_, _, _, _, hcl, fun l D cI cZ b => qMd_make_ok l D cI cZ b μ x y k nf nw (tdN μ 3600) hxn hyn (by rw [hcmp.1, hcmp.2]; exact nI_le (by omega) (by omega)) hk h0 h1 hs.2.2.2.2.2.2.2.2.1.1 (by omega) hok, fun r' u hp => ?_, fun E hE => hE.2.elim (fun w => absurd w cx) (fun w => absurd w cy)⟩
      obtain ⟨-, nf', nw', e1, e2, f1, f2, hp⟩ := hp
      have w1 : nf = nf' := (nI_eq (by omega) (by omega)).mp (hxn.symm.trans e1)
      have w2 : nw = nw' := (nI_eq (by omega) (by omega)).mp (hyn.symm.trans e2)
      subst w1; subst w2
      rcases hp with ⟨z, -⟩ | ⟨-, e3, e4⟩
      · omega
      · refine ⟨rfl, by rw [e3]; exact (hs.2.2.1 0 (by omega)).symm, ?_⟩
        rw [e4, hxn, hyn]
        exact ⟨_, _, c0, hs.mk hnf hnw hk h0 r⟩
    · refine ⟨_, _, 0, μ.sM 0 0, hcl, fun l D cI cZ b => qMd_make_full l D cI cZ b μ x y (by rw [hcmp.1, hcmp.2]; exact nI_ge (by omega) (by omega)) hok, fun r' u hp => ?_, fun E hE => hE.2.elim (fun w => absurd w cx) (fun w => absurd w cy)⟩
      obtain ⟨-, nf', nw', e1, e2, f1, f2, hp⟩ := hp
      have w1 : nf = nf' := (nI_eq (by omega) (by omega)).mp (hxn.symm.trans e1)
      have w2 : nw = nw' := (nI_eq (by omega) (by omega)).mp (hyn.symm.trans e2)
      subst w1; subst w2
      rcases hp with ⟨-, e3, e4⟩ | ⟨z, -⟩
      · exact ⟨rfl, e3, by rw [e4]; exact hs.t0 0⟩
      · omega
/-- nothing is there yet -/
def ppE (e w o : Nat) : Nat → Nat → Nat := fun i j => match j with
  | 0 => (match i with | 0 => 1 | 1 => 1 + e | 2 => 1 + e + w | _ => 1 + e + w + w)
  | 1 => (match i with | 0 => e | 1 => w | 2 => w | _ => o)
  | _ => 0
theorem Sim.empty {e w o : Nat} (he : e ≤ 1024) (hw : w ≤ 512) (ho : o ≤ 8192) (hN : 1 + e + w + w + o ≤ σ.N) (hN2 : σ.N ≤ 10241) (hP : ∀ i, i < 4 → ∀ j, j < 4 → σ.P i j = nI (ppE e w o i j)) (hA0 : ∀ i, i < 4 → μ.A 0 i = nI (ppE e w o i 0) ∧ μ.A 1 i = nI (ppE e w o i 1)) (hA2 : ∀ i, i < 4 → μ.A 2 i = nI (ppE e w o i 0))
    (h3 : ∀ k, k < 3600 → μ.A 3 k = 0) (hR : ∀ i, i < 16 → σ.R i = 0 ∧ μ.A 15 i = 0) (hF2 : σ.F 2 = 0) (hM1 : μ.M 1 = 1) (hM2 : μ.M 2 = σ.F 1) (hM6 : μ.M 6 = σ.F 3) (hM7 : μ.M 7 = σ.F 4) (hM8 : μ.M 8 = σ.F 5) (hM3 : μ.M 3 = 0) (hM4 : μ.M 4 = 0) : Sim σ μ := by
  have hT : tdN μ 3600 = 0 := by rw [tdN_sm]; exact smF_zero 3600 (fun j hj => if_pos (h3 j hj))
  refine ⟨ppE e w o, fun _ _ => 0, 0, ?_, ⟨hP, hA0, by omega, hF2, hM1, hM2, hM6, hM7, hM8⟩, hA2, ⟨rfl, rfl⟩, ⟨fun i hi => ⟨hi, rfl, fun k hk => absurd hk (Nat.not_lt_zero _)⟩, fun i j _ hj => absurd hj (Nat.not_lt_zero _), fun k hk ht => absurd (h3 k hk) ht⟩, fun k hk ht => absurd (h3 k hk) ht, fun i hi => Or.inl (hR i hi), fun i hi => ⟨smF_zero 3600 (fun j hj => if_neg (fun z => z.1 (h3 j hj))), smF_zero 3600 (fun j hj => if_neg (fun z => z.1 (h3 j hj)))⟩, ⟨by rw [hM3, hT]; rfl, fun k hk ht => absurd (h3 k hk) ht, fun k k' hk _ ht => absurd (h3 k hk) ht⟩, hM4, fun j hj => absurd hj (Nat.not_lt_zero _)⟩
  simp only [geoN, ppE]
  omega
theorem nrE (σ0 : nSt) (e w o : Nat) : ∀ i, i < 4 → ∀ j, j < 4 → (laid σ0 (nI e) (nI w) (nI o)).P i j = nI (ppE e w o i j) := by
  intro i hi j hj
  have e2 : (1 : Int32) + nI e + 2 * nI w = nI (1 + e + w + w) := by
    rw [show (1 : Int32) = nI 1 from rfl, show (2 : Int32) = nI 2 from rfl, pk_mul, nI_add, nI_add]; congr 1; omega
  have e1 : (1 : Int32) + nI e = nI (1 + e) := by rw [show (1 : Int32) = nI 1 from rfl, nI_add]
  rcases (show i = 0 ∨ i = 1 ∨ i = 2 ∨ i = 3 by omega) with rfl | rfl | rfl | rfl <;> rcases (show j = 0 ∨ j = 1 ∨ j = 2 ∨ j = 3 by omega) with rfl | rfl | rfl | rfl <;> first | rfl | exact e1 | exact e2 | (show (1 : Int32) + nI e + nI w = nI (1 + e + w); rw [e1, nI_add])
theorem mdE (μ0 : mSt) (e w o : Nat) : (∀ i, i < 4 → (layM μ0 (nI e) (nI w) (nI o)).A 0 i = nI (ppE e w o i 0) ∧ (layM μ0 (nI e) (nI w) (nI o)).A 1 i = nI (ppE e w o i 1)) ∧ ∀ i, i < 4 → (layM μ0 (nI e) (nI w) (nI o)).A 2 i = nI (ppE e w o i 0) := by
  have e1 : (1 : Int32) + nI e = nI (1 + e) := by rw [show (1 : Int32) = nI 1 from rfl, nI_add]
  have e3 : (1 : Int32) + nI e + nI w = nI (1 + e + w) := by rw [e1, nI_add]
  have e4 : (1 : Int32) + nI e + nI w + nI w = nI (1 + e + w + w) := by rw [e3, nI_add]
  refine ⟨fun i hi => ?_, fun i hi => ?_⟩
  · rcases (show i = 0 ∨ i = 1 ∨ i = 2 ∨ i = 3 by omega) with rfl | rfl | rfl | rfl
    · exact ⟨rfl, rfl⟩
    · exact ⟨e1, rfl⟩
    · exact ⟨e3, rfl⟩
    · exact ⟨e4, rfl⟩
  · rcases (show i = 0 ∨ i = 1 ∨ i = 2 ∨ i = 3 by omega) with rfl | rfl | rfl | rfl
    · rfl
    · exact e1
    · exact e3
    · exact e4
theorem sim_start (hx : Nat) : Sim (nrS0 hx) mdS0 := by
  have q := mdE mdS1 256 64 2048
  refine Sim.empty (e := 256) (w := 64) (o := 2048) (by omega) (by omega) (by omega) (show 1 + 256 + 64 + 64 + 2048 ≤ 2433 by omega) (show 2433 ≤ 10241 by omega) (nrE (nrS1 hx) 256 64 2048) q.1 q.2 (fun k hk => ?_) (fun i hi => ⟨rfl, ?_⟩) rfl rfl rfl rfl rfl rfl rfl rfl
  · show fillF _ 0 3600 0 k = 0
    simp only [fillF]; rw [if_pos ⟨Nat.zero_le _, hk⟩]
  · show fillF _ 0 16 0 i = 0
    simp only [fillF]; rw [if_pos ⟨Nat.zero_le _, hi⟩]
theorem st_space (h : Sim σ μ) (x y z : Int32) : StepOK yNr_space cNr_space 5 (gRc 8 1 10241) yMd_space cMd_space 5 [.int x, .int y, .int z] σ μ [(xIA, 1)] := by
  obtain ⟨pp, num, c0, hs⟩ := h
  by_cases c : isW x 16 1024 = 0 ∨ isW y 0 512 = 0 ∨ isW z 64 8192 = 0
  · refine ⟨_, _, 0, μ.sM 0 1, fun l hfl D cI cP a => qNr_space l hfl D cI cP a σ x y z, fun l D cI cZ b => qMd_space_no l D cI cZ b μ x y z (fun q => ?_), fun r u hp => ?_, fun E hE => ⟨1, by rw [hE.1]; exact List.mem_singleton.mpr rfl, rfl, hs.t0 1⟩⟩
    · rcases c with w | w | w
      · exact isW_z w ⟨q.1, q.2.1⟩
      · exact isW_z w ⟨q.2.2.1, q.2.2.2.1⟩
      · exact isW_z w ⟨q.2.2.2.2.1, q.2.2.2.2.2⟩
    · rcases c with w | w | w
      · exact absurd w hp.1.1
      · exact absurd w hp.1.2.1
      · exact absurd w hp.1.2.2
  · have cx : ¬ isW x 16 1024 = 0 := fun w => c (Or.inl w)
    have cy : ¬ isW y 0 512 = 0 := fun w => c (Or.inr (Or.inl w))
    have cz : ¬ isW z 64 8192 = 0 := fun w => c (Or.inr (Or.inr w))
    obtain ⟨e, hxn, -, he⟩ := isW_ne (a := 16) (b := 1024) cx rfl rfl (by omega) (by omega)
    obtain ⟨w, hyn, -, hw⟩ := isW_ne (a := 0) (b := 512) cy rfl rfl (by omega) (by omega)
    obtain ⟨o, hzn, -, ho⟩ := isW_ne (a := 64) (b := 8192) cz rfl rfl (by omega) (by omega)
    refine ⟨_, _, _, _, fun l hfl D cI cP a => qNr_space l hfl D cI cP a σ x y z, fun l D cI cZ b => qMd_space_ok l D cI cZ b μ x y z ⟨(isW_y cx).1, (isW_y cx).2, (isW_y cy).1, (isW_y cy).2, (isW_y cz).1, (isW_y cz).2⟩, fun r u hp => ?_, fun E hE => ?_⟩
    · obtain ⟨-, hr, v, hv, hu⟩ := hp
      refine ⟨rfl, ?_, ?_⟩
      · rw [hr]
        simp only [allC]
        rw [(hs.2.1.2.1 0 (by omega)).2, (hs.2.1.2.1 1 (by omega)).2, (hs.2.1.2.1 2 (by omega)).2, (hs.2.1.2.1 3 (by omega)).2, hs.2.1.1 0 (by omega) 1 (by omega), hs.2.1.1 1 (by omega) 1 (by omega), hs.2.1.1 2 (by omega) 1 (by omega), hs.2.1.1 3 (by omega) 1 (by omega), show (0 : Int32) = nI 0 from rfl, nI_add, Nat.zero_add]
      · subst hxn; subst hyn; subst hzn
        have q := mdE (μ.sM 0 0) e w o
        have hall : allC (laid σ (nI e) (nI w) (nI o)) = nI (e + w + w + o) := by
          simp only [allC]
          rw [nrE σ e w o 0 (by omega) 1 (by omega), nrE σ e w o 1 (by omega) 1 (by omega), nrE σ e w o 2 (by omega) 1 (by omega), nrE σ e w o 3 (by omega) 1 (by omega), show (0 : Int32) = nI 0 from rfl, nI_add, nI_add, nI_add, nI_add]
          simp only [ppE, Nat.zero_add]
        have hgN := hs.1.1.2.2.2.2.2
        have hvv : v.P = (laid σ (nI e) (nI w) (nI o)).P ∧ v.F = σ.F ∧ 1 + e + w + w + o ≤ v.N ∧ v.N ≤ 10241 := by
          rcases hv with ⟨g1, rfl⟩ | ⟨g1, hq, rfl⟩
          · rw [hall] at g1
            have : e + w + w + o < σ.N := (nI_ltI (by omega) (show σ.N < 2 ^ 31 by omega)).mp g1
            exact ⟨rfl, rfl, by show 1 + e + w + w + o ≤ σ.N; omega, hgN⟩
          · exact ⟨rfl, rfl, by show 1 + e + w + w + o ≤ 10241; omega, Nat.le_refl _⟩
        rw [hu]
        refine Sim.empty (e := e) (w := w) (o := o) he hw ho hvv.2.2.1 hvv.2.2.2 (fun i hi j hj => ?_) q.1 q.2 (fun k hk => ?_) (fun i hi => ⟨?_, ?_⟩) rfl rfl ?_ rfl rfl rfl rfl rfl
        · show v.P i j = _
          rw [hvv.1]; exact nrE σ e w o i hi j hj
        · show fillF _ 0 3600 0 k = 0
          simp only [fillF]; rw [if_pos ⟨Nat.zero_le _, hk⟩]
        · show fillF _ 0 16 0 i = 0
          simp only [fillF]; rw [if_pos ⟨Nat.zero_le _, hi⟩]
        · show fillF _ 0 16 0 i = 0
          simp only [fillF]; rw [if_pos ⟨Nat.zero_le _, hi⟩]
        · show μ.M 2 = v.F 1
          rw [hvv.2.1]; exact hs.m2
    · rcases hE.2 with w | w | w
      · exact absurd w cx
      · exact absurd w cy
      · exact absurd w cz
end MAKE
