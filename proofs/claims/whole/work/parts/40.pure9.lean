/-! THE PURE HALF, 9: a collection's start and end -/
section COL
variable {σ : nSt} {μ : mSt} {pp num : Nat → Nat → Nat} {c0 : Nat}
theorem SimP.toMid (hs : SimP σ μ pp num c0) (hr : pp 3 2 + (pp 0 2 + pp (1 + c0) 2) ≤ pp 3 1) :
    Mid (col0 μ (2 - c0)) c0 (pp 3 3) (SO (col0 μ (2 - c0)) 0) (σ.sF 0 0) (col0 μ (2 - c0)) pp num 0 ∧ MidF (pp 3 3) (col0 μ (2 - c0)) pp num 0 := by
  obtain ⟨hg, ⟨h2, h3, h4, h5, h6, h7, h8, h9, h10⟩, h11, h12, L, C, R, h14, h15, h16, h17⟩ := hs
  obtain ⟨ν, hν⟩ : ∃ ν, ν = col0 μ (2 - c0) := ⟨_, rfl⟩
  rw [← hν]
  have a0 : ν.A 0 = μ.A 0 := by rw [hν]; rfl
  have a1 : ν.A 1 = μ.A 1 := by rw [hν]; rfl
  have a2 : ν.A 2 = upd (μ.A 2) (2 - c0) (μ.A 0 (2 - c0)) := by rw [hν]; rfl
  have a3 : ν.A 3 = μ.A 3 := by rw [hν]; rfl
  have a4 : ν.A 4 = μ.A 4 := by rw [hν]; rfl
  have a5 : ν.A 5 = μ.A 5 := by rw [hν]; rfl
  have a6 : ν.A 6 = μ.A 6 := by rw [hν]; rfl
  have a7 : ν.A 7 = μ.A 7 := by rw [hν]; rfl
  have a8 : ν.A 8 = μ.A 8 := by rw [hν]; rfl
  have a9 : ν.A 9 = μ.A 9 := by rw [hν]; rfl
  have a10 : ν.A 10 = μ.A 10 := by rw [hν]; rfl
  have a12 : ν.A 12 = μ.A 12 := by rw [hν]; rfl
  have a14 : ∀ k, k < 3600 → ν.A 14 k = 0 := fun k hk => by
    rw [hν]; show fillF _ 0 3600 0 k = 0
    simp only [fillF]; rw [if_pos ⟨Nat.zero_le _, hk⟩]
  have m5 : ν.M 5 = nI 0 := by rw [hν]; rfl
  have m1 : ν.M 1 = μ.M 1 := by rw [hν]; rfl
  have m2 : ν.M 2 = μ.M 2 := by rw [hν]; rfl
  have m6 : ν.M 6 = μ.M 6 := by rw [hν]; rfl
  have m7 : ν.M 7 = μ.M 7 := by rw [hν]; rfl
  have m8 : ν.M 8 = μ.M 8 := by rw [hν]; rfl
  have rl : relM ν = relM μ := relM_congr a3 a5
  have oth : ∀ k, Od ν k → th μ k := fun k z => by rw [← th_congr a3]; exact z.1
  have fth : ∀ k, Fr ν k → th μ k := fun k z => by rw [← th_congr a3]; exact z.1
  have al : ∀ k, k < 3600 → alM ν ν k → Od ν k := fun k hk z => z.resolve_right (fun w => w.2 (a14 k hk))
  have hlt : ∀ i, toP c0 i → i < 4 := fun i hi => by rcases hi with q | q <;> omega
  -- a number's contents
  have ct : ∀ (rl' : Nat → Int32 → Int32 → Prop), (∀ t x v, relM ν x v → rl' t x v) → ∀ k, k < 3600 → th μ k → ∃ a nf nw st, a < 2 ^ 31 ∧ ν.A 5 k = nI a ∧ obM rl' σ.X ν a k nf nw st := fun rl' hrl k hk ht => by
    obtain ⟨a, nf, nw, st, d1, d2, d3⟩ := C k hk ht
    refine ⟨a, nf, nw, st, d1, by rw [a5]; exact d2, d3.congr (fun _ _ _ => rfl) ⟨by rw [a7], by rw [a8], by rw [a6], by rw [a9]⟩ (fun t _ => by rw [a10]) (fun t x v _ w => hrl t x v (by rw [rl]; exact w))⟩
  refine ⟨⟨⟨hg, ⟨h2, fun i hi => by rw [a0, a1]; exact h3 i hi, h4, h5, m1.trans h6, m2.trans h7, m6.trans h8, m7.trans h9, m8.trans h10⟩, fKp.rfl' _, fun i hi => ?_⟩, ⟨fun k hk fr => ?_, fun k k' a a' hk hk' fr fr' hne ha ha' e e' => ?_⟩, ⟨⟨fun i hi => ⟨hlt i hi, (L.1 i (hlt i hi)).2⟩, fun i j hi hj => ?_, fun k hk hl => ?_⟩, fun k hk hl => ?_, fun k hk hl => ?_, fun _ _ _ => ⟨rfl, rfl⟩, fun k hk fr mv => absurd (a14 k hk) mv, fun k hk od => ⟨od.2, rfl⟩⟩, ⟨?_, ?_, fun i hi => ?_⟩, ⟨rfl, m5, fun q hq => absurd hq (Nat.not_lt_zero _), fun q q' hq => absurd hq (Nat.not_lt_zero _), fun k hk fr mv => absurd (a14 k hk) mv⟩, fun k t hk ⟨q, hq, _⟩ => absurd hq (Nat.not_lt_zero _), Nat.le_refl _, fun j hj => ?_, fun k hk od => ?_⟩, rfl, fun j hj => ?_⟩
  · rw [a2]
    by_cases q : i = 2 - c0
    · subst q; rw [pk_us, h12.1, Nat.add_zero]; exact (h3 _ (by omega)).1
    · rw [pk_un q]; exact h11 i (hlt i hi)
  · obtain ⟨i, j, hi, hj, e⟩ := L.2.2 k hk (fth k fr)
    have w := L.2.1 i j hi hj
    have r := L.rng hg hi hj
    rw [e] at w
    obtain ⟨a, nf, nw, st, d1, d2, d3⟩ := C k hk (fth k fr)
    have s := szX_3 σ.X (ch σ.X (pp i 0) j)
    have ea : a = ch σ.X (pp i 0) j := (nI_eq d1 (by omega)).mp (d2.symm.trans w.2.2.2)
    have n3 : i ≠ 3 := fun z => fr.2 (by rw [a4, w.2.2.1, z])
    have no : i ≠ 2 - c0 := fun z => by rw [z, h12.2] at hj; exact absurd hj (Nat.not_lt_zero _)
    refine ⟨i, _, by omega, by rw [a4]; exact w.2.2.1, by rw [a5]; exact w.2.2.2, r.1, ?_⟩
    rw [lnM_congr a7 a8, d3.sz.2.1]
    have := d3.sz.1
    rw [ea] at this; omega
  · have q := L.apk hg hk hk' (fth k fr) (fth k' fr') (by rw [← a5]; exact e) (by rw [← a5]; exact e') ha ha' hne
    rw [lnM_congr a7 a8]
    obtain ⟨b, nf, nw, st, d1, d2, d3⟩ := C k hk (fth k fr)
    obtain ⟨b', nf', nw', st', d1', d2', d3'⟩ := C k' hk' (fth k' fr')
    have eb : a = b := (nI_eq ha d1).mp ((by rw [← a5]; exact e.symm : nI a = μ.A 5 k).trans d2)
    have eb' : a' = b' := (nI_eq ha' d1').mp ((by rw [← a5]; exact e'.symm : nI a' = μ.A 5 k').trans d2')
    subst eb; subst eb'
    rw [d3.sz.1, d3'.sz.1] at q
    rw [d3.sz.2.1, d3'.sz.2.1]; omega
  · have w := L.2.1 i j (hlt i hi) hj
    have i3 : i = 3 := by
      rcases hi with q | q
      · rw [q, h12.2] at hj; exact absurd hj (Nat.not_lt_zero _)
      · exact q
    refine ⟨w.1, Or.inl ⟨?_, ?_⟩, by rw [a4]; exact w.2.2.1, by rw [a5]; exact w.2.2.2⟩
    · rw [a3]; exact w.2.1
    · rw [a4, w.2.2.1, i3]
  · have od := al k hk hl
    obtain ⟨i, j, hi, hj, e⟩ := L.2.2 k hk (oth k od)
    have w := L.2.1 i j hi hj
    have q := od.2
    rw [a4, ← e, w.2.2.1] at q
    exact ⟨i, j, Or.inr ((nI_eq (by omega) (by omega)).mp q), hj, e⟩
  · exact ct _ (fun t x v w => ⟨fun ⟨q, hq, _⟩ => absurd hq (Nat.not_lt_zero _), fun _ => w⟩) k hk (oth k (al k hk hl))
  · exact ct _ (fun t x v w => w) k hk (fth k hl.1)
  · rw [szM_congr a3 a4 a7 a8, szM_congr a3 a4 a7 a8, (h14 0 (by omega)).2, (h14 (1 + c0) (by omega)).2]; exact hr
  · rw [ctM_congr a3 a4, ctM_congr a3 a4, (h14 0 (by omega)).1, (h14 (1 + c0) (by omega)).1]
    have f0 := (L.1 0 (by omega)).2.few
    have f1 := (L.1 (1 + c0) (by omega)).2.few
    obtain ⟨-, ⟨u0, u1, u2, u3⟩, g0, g1, g2, g3⟩ := hg
    rcases (show c0 = 0 ∨ c0 = 1 by omega) with e | e
    · subst e; simp only [Nat.add_zero] at f1 ⊢; omega
    · subst e; simp only [show 1 + 1 = 2 from rfl] at f1 ⊢; omega
  · rw [ctM_congr a3 a4, szM_congr a3 a4 a7 a8]; exact h14 i (hlt i hi)
  · have w := L.2.1 3 j (by omega) hj
    refine ⟨⟨by rw [a3]; exact w.2.1, by rw [a4]; exact w.2.2.1⟩, by rw [a12]; exact h17 j hj⟩
  · obtain ⟨i, j, hi, hj, e⟩ := L.2.2 k hk (oth k od)
    have w := L.2.1 i j hi hj
    have q := od.2
    rw [a4, ← e, w.2.2.1] at q
    have : i = 3 := (nI_eq (by omega) (by omega)).mp q
    subst this
    exact ⟨j, hj, e⟩
  · show ν.A 12 j = _
    rw [a12]; exact h17 j hj
/-- behind a collection -/
def ppZ (pp : Nat → Nat → Nat) (c0 : Nat) : Nat → Nat → Nat := fun i j => if (i = 0 ∨ i = 1 + c0) ∧ (j = 2 ∨ j = 3) then 0 else pp i j
theorem ppZ_0 (i : Nat) : ppZ pp c0 i 0 = pp i 0 := if_neg (by omega)
theorem ppZ_1 (i : Nat) : ppZ pp c0 i 1 = pp i 1 := if_neg (by omega)
theorem ppZ_t {i j : Nat} (h : ¬ (i = 0 ∨ i = 1 + c0)) : ppZ pp c0 i j = pp i j := if_neg (fun z => h z.1)
theorem ppZ_z {i j : Nat} (h : i = 0 ∨ i = 1 + c0) (hj : j = 2 ∨ j = 3) : ppZ pp c0 i j = 0 := if_pos ⟨h, hj⟩
theorem tdP_at {κ : mSt} {k t : Nat} (h3 : ¬ κ.A 3 k = 0) (ht : t < lnM κ k) : ∀ n, k + 1 ≤ n → tdP κ n (tdN κ k + t) = κ.A 10 (stM κ k + t)
  | 0, h => absurd h (by omega)
  | n + 1, h => by
    by_cases q : n = k
    · subst q
      rw [tdP_y κ h3]
      simp only [cpF]
      rw [if_pos (by omega)]; congr 1; omega
    · have ih := tdP_at h3 ht n (by omega)
      by_cases c : κ.A 3 n = 0
      · rw [tdP_n κ c]; exact ih
      · rw [tdP_y κ c]
        have w := tdN_le κ (show k + 1 ≤ n by omega)
        rw [tdN_y κ h3] at w
        simp only [cpF]
        rw [if_neg (by omega)]; exact ih
theorem Mid.fin {ν0 v : mSt} {n3 nc : Nat} (hM : Mid ν0 c0 n3 (SC ν0 v nc) σ v pp num nc) (hF : MidF n3 v pp num nc) (hR : ∀ j, j < 16 → relN ν0 v (σ.R j) (ν0.A 15 j)) (hD : ∀ k, k < 3600 → ¬ ν0.A 3 k = 0 → stM ν0 k + lnM ν0 k ≤ 24000) :
    TdH (col6 (col5 v n3 nc) (1 + c0)) ∧ SimP ((((σ.sP 0 (σ.P 0 0, σ.P 0 1, 0, 0)).sP (1 + c0) (σ.P (1 + c0) 0, σ.P (1 + c0) 1, 0, 0)).sF 2 (1 - σ.F 2)).sF 3 (σ.F 3 + 1)) (tidM (col6 (col5 v n3 nc) (1 + c0))) (ppZ pp c0) num (1 - c0) := by
  have hgeo := fun {i i' : Nat} => hM.geo (i := i) (i' := i')
  have hln := hM.ln
  obtain ⟨⟨hg, ⟨h2, h3, h4, h5, h6, h7, h8, h9, h10⟩, kp, tp⟩, ⟨G1, G2⟩, ⟨L, C, U, U2, Wd, O⟩, ⟨s1, s2, s3⟩, ⟨c1, c2, c3, c4, c5⟩, hS, N1, N2, N3⟩ := id hM
  obtain ⟨κ, hκ⟩ : ∃ κ, κ = col6 (col5 v n3 nc) (1 + c0) := ⟨_, rfl⟩
  rw [← hκ]
  have a0 : κ.A 0 = v.A 0 := by rw [hκ]; rfl
  have a1 : κ.A 1 = v.A 1 := by rw [hκ]; rfl
  have a2 : κ.A 2 = upd (upd (v.A 2) 0 (v.A 0 0)) (1 + c0) (v.A 0 (1 + c0)) := by rw [hκ]; rfl
  have a3 : κ.A 3 = thF v 3600 := by rw [hκ]; rfl
  have a4 : κ.A 4 = v.A 4 := by rw [hκ]; rfl
  have a5 : κ.A 5 = v.A 5 := by rw [hκ]; rfl
  have a6 : κ.A 6 = v.A 6 := by rw [hκ]; rfl
  have a7 : κ.A 7 = v.A 7 := by rw [hκ]; rfl
  have a8 : κ.A 8 = v.A 8 := by rw [hκ]; rfl
  have a9 : κ.A 9 = v.A 9 := by rw [hκ]; rfl
  have a10 : κ.A 10 = v.A 10 := by rw [hκ]; rfl
  have a12 : κ.A 12 = (ofF (col4 v) n3 nc).1 := by rw [hκ]; rfl
  have a15 : κ.A 15 = v.A 15 := by rw [hκ]; rfl
  have m1 : κ.M 1 = 3 - v.M 1 := by rw [hκ]; rfl
  have m2 : κ.M 2 = v.M 2 := by rw [hκ]; rfl
  have m4 : κ.M 4 = nI (ofF (col4 v) n3 nc).2 := by rw [hκ]; rfl
  have m6 : κ.M 6 = v.M 6 + 1 := by rw [hκ]; rfl
  have m7 : κ.M 7 = v.M 7 := by rw [hκ]; rfl
  have m8 : κ.M 8 = v.M 8 := by rw [hκ]; rfl
  have eo : ofF (col4 v) n3 nc = ofF v n3 nc := ofF_congr (μ := v) (μ' := col4 v) rfl nc (fun _ _ => ⟨rfl, rfl⟩)
  -- who is there
  have vth : ∀ k, (¬ v.A 3 k = 0) ↔ ¬ ν0.A 3 k = 0 := fun k => by rw [kp.2.2.1]
  have hal : ∀ k, k < 3600 → ((¬ κ.A 3 k = 0) ↔ alM ν0 v k) := fun k hk => by
    have e : κ.A 3 k = (if ¬ v.A 3 k = 0 ∧ (v.A 4 k = 3 ∨ ¬ v.A 14 k = 0) then 1 else 0) := by rw [a3]; simp only [thF]; rw [if_pos hk]
    have cnd : (¬ v.A 3 k = 0 ∧ (v.A 4 k = 3 ∨ ¬ v.A 14 k = 0)) ↔ alM ν0 v k := by
      constructor
      · rintro ⟨t, w⟩
        by_cases od : ν0.A 4 k = nI 3
        · exact Or.inl ⟨(vth k).mp t, od⟩
        · refine Or.inr ⟨⟨(vth k).mp t, od⟩, fun mv => ?_⟩
          have u := U2 k hk ⟨⟨(vth k).mp t, od⟩, mv⟩
          exact w.elim (fun z => od (u.1.symm.trans z)) (fun z => z mv)
      · rintro (od | ⟨fr, mv⟩)
        · exact ⟨(vth k).mpr od.1, Or.inl (O k hk od).1⟩
        · exact ⟨(vth k).mpr fr.1, Or.inr mv⟩
    rw [e]
    by_cases q : ¬ v.A 3 k = 0 ∧ (v.A 4 k = 3 ∨ ¬ v.A 14 k = 0)
    · rw [if_pos q]; exact ⟨fun _ => cnd.mp q, fun _ => by decide⟩
    · rw [if_neg q]; exact ⟨fun z => absurd rfl z, fun z => absurd (cnd.mpr z) q⟩
  have alth : ∀ k, alM ν0 v k → ¬ ν0.A 3 k = 0 := fun k z => z.elim (fun w => w.1) (fun w => w.1.1)
  have lk : lnM κ = lnM v := lnM_congr a7 a8
  have sk : stM κ = stM v := stM_congr a9
  have sv : stM v = stM ν0 := stM_congr kp.2.2.2.2.2.1
  have split : ∀ i, i < 4 → (i = 0 ∨ i = 1 + c0) ∨ toP c0 i := fun i hi => by
    rcases (show c0 = 0 ∨ c0 = 1 by omega) with e | e <;> subst e <;> simp only [toP] <;> omega
  have hto : ∀ i, toP c0 i → ¬ (i = 0 ∨ i = 1 + c0) := fun i hi z => (hgeo z hi).2.2.1 rfl
  -- sums
  have ctk : ∀ i, toP c0 i → ∀ k, k < 3600 → ctf κ (nI i) k = ctf v (nI i) k ∧ szf κ (nI i) k = szf v (nI i) k := fun i hi k hk => by
    simp only [ctf, szf]
    rw [a4, lk]
    by_cases q : alM ν0 v k
    · have t1 := (hal k hk).mpr q
      have t2 := (vth k).mpr (alth k q)
      by_cases w : v.A 4 k = nI i
      · rw [if_pos ⟨t1, w⟩, if_pos ⟨t2, w⟩, if_pos ⟨t1, w⟩, if_pos ⟨t2, w⟩]; exact ⟨rfl, rfl⟩
      · rw [if_neg (fun z => w z.2), if_neg (fun z => w z.2), if_neg (fun z => w z.2), if_neg (fun z => w z.2)]; exact ⟨rfl, rfl⟩
    · have n1 : ¬ (¬ κ.A 3 k = 0 ∧ v.A 4 k = nI i) := fun z => q ((hal k hk).mp z.1)
      have n2 : ¬ (¬ v.A 3 k = 0 ∧ v.A 4 k = nI i) := fun z => by
        have tn := (vth k).mp z.1
        have od : ¬ ν0.A 4 k = nI 3 := fun w => q (Or.inl ⟨tn, w⟩)
        have mv : v.A 14 k = 0 := Classical.byContradiction fun w => q (Or.inr ⟨⟨tn, od⟩, w⟩)
        obtain ⟨ik, a, hik, e4, -⟩ := G1 k hk ⟨tn, od⟩
        have u := (U2 k hk ⟨⟨tn, od⟩, mv⟩).1
        have g := hgeo hik hi
        exact g.2.2.1 ((nI_eq (by omega) (by omega)).mp (e4.symm.trans (u.symm.trans z.2)))
      rw [if_neg n1, if_neg n2, if_neg n1, if_neg n2]; exact ⟨rfl, rfl⟩
  have ctz : ∀ i, (i = 0 ∨ i = 1 + c0) → ∀ k, k < 3600 → ctf κ (nI i) k = 0 ∧ szf κ (nI i) k = 0 := fun i hi k hk => by
    have n1 : ¬ (¬ κ.A 3 k = 0 ∧ κ.A 4 k = nI i) := fun z => by
      obtain ⟨i', a, hi', hi4, e4, -⟩ := L.at hg hk ((hal k hk).mp z.1)
      have g := hgeo hi hi'
      rw [a4] at z
      exact g.2.2.1 ((nI_eq (by omega) (by omega)).mp (z.2.symm.trans e4))
    exact ⟨if_neg n1, if_neg n1⟩
  have hT : tdN κ 3600 ≤ 9000 := by
    have q : smF (tdf κ) 3600 ≤ smF (fun k => szf κ (nI (2 - c0)) k + szf κ (nI 3) k) 3600 := smF_le 3600 (fun k hk => by
      by_cases t3 : κ.A 3 k = 0
      · simp only [tdf, if_pos t3]; omega
      · obtain ⟨i, a, hi, -, e4, -⟩ := L.at hg hk ((hal k hk).mp t3)
        have e : szf κ (nI i) k = 3 + lnM κ k := if_pos ⟨t3, by rw [a4]; exact e4⟩
        simp only [tdf, if_neg t3]
        rcases hi with w | w <;> subst w <;> omega)
    rw [smF_add, smF_congr (f := szf κ (nI (2 - c0))) 3600 (fun j hj => (ctk _ (Or.inl rfl) j hj).2), smF_congr (f := szf κ (nI 3)) 3600 (fun j hj => (ctk _ (Or.inr rfl) j hj).2)] at q
    have z1 : smF (szf v (nI (2 - c0))) 3600 = pp (2 - c0) 2 := (s3 _ (Or.inl rfl)).2
    have z2 : smF (szf v (nI 3)) 3600 = pp 3 2 := (s3 _ (Or.inr rfl)).2
    rw [tdN_sm]
    have g1 := hgeo (i := 0) (i' := 2 - c0) (Or.inl rfl) (Or.inl rfl)
    obtain ⟨-, ⟨u0, u1, u2, u3⟩, q0, q1, q2, q3⟩ := hg
    rcases (show c0 = 0 ∨ c0 = 1 by omega) with e | e
    · subst e; simp only [Nat.sub_zero] at z1 q g1; omega
    · subst e; simp only [show 2 - 1 = 1 from rfl] at z1 q g1; omega
  have hTd : TdH κ := ⟨fun k hk t3 => by
    have q := (hal k hk).mp t3
    obtain ⟨a, nf, nw, st, d1, d2, d3⟩ := C k hk q
    have dd := hD k hk (alth k q)
    rw [← hln, ← sv, d3.sz.2.1, d3.sz.2.2] at dd
    obtain ⟨b1, -, ⟨b4, b5, b6, b7, b8⟩, -⟩ := d3
    exact ⟨nf, nw, st, by rw [a7]; exact b4, by rw [a8]; exact b5, by rw [a9]; exact b7, b1.1, b1.2, dd⟩, by omega⟩
  refine ⟨hTd, ?_⟩
  -- behind tidy
  obtain ⟨τ, hτ⟩ : ∃ τ, τ = tidM κ := ⟨_, rfl⟩
  rw [← hτ]
  have e3 : τ.A 3 = κ.A 3 := by rw [hτ]; rfl
  have e4 : τ.A 4 = v.A 4 := by rw [← a4, hτ]; rfl
  have e5 : τ.A 5 = v.A 5 := by rw [← a5, hτ]; rfl
  have e6 : τ.A 6 = v.A 6 := by rw [← a6, hτ]; rfl
  have e7 : τ.A 7 = κ.A 7 := by rw [hτ]; rfl
  have e8 : τ.A 8 = κ.A 8 := by rw [hτ]; rfl
  have e9 : τ.A 9 = tdS κ 3600 := by rw [hτ]; rfl
  have e10 : τ.A 10 = hdF (tdP κ 3600) (κ.A 10) (tdN κ 3600) := by rw [hτ]; rfl
  have e15 : τ.A 15 = ν0.A 15 := by rw [← kp.2.2.2.2.2.2.2.2.2.1, ← a15, hτ]; rfl
  have lt : lnM τ = lnM v := (lnM_congr e7 e8).trans lk
  have tdt : ∀ t, tdN τ t = tdN κ t := tdN_congr e3 e7 e8
  have st9 : ∀ k, k < 3600 → ¬ κ.A 3 k = 0 → τ.A 9 k = nI (tdN κ k) := fun k hk t3 => by rw [e9]; simp only [tdS]; rw [if_pos ⟨hk, t3⟩]
  have tle : ∀ k, k < 3600 → ¬ κ.A 3 k = 0 → tdN κ k + lnM κ k ≤ tdN κ 3600 := fun k hk t3 => by
    have := tdN_le κ (show k + 1 ≤ 3600 by omega)
    rw [tdN_y κ t3] at this; exact this
  have stt : ∀ k, k < 3600 → ¬ κ.A 3 k = 0 → stM τ k = tdN κ k := fun k hk t3 => by
    have := tle k hk t3
    simp only [stM]; rw [st9 k hk t3, nI_clamp (by omega)]
  have dat : ∀ k, k < 3600 → ¬ κ.A 3 k = 0 → ∀ t, t < lnM κ k → τ.A 10 (tdN κ k + t) = v.A 10 (stM v k + t) := fun k hk t3 t ht => by
    have := tle k hk t3
    rw [e10]; simp only [hdF]; rw [if_pos (by omega), tdP_at t3 ht 3600 (by omega), a10, sk]
  have hth : ∀ k, k < 3600 → (th τ k ↔ alM ν0 v k) := fun k hk => by simp only [th]; rw [e3]; exact hal k hk
  have rel : ∀ x w, relN ν0 v x w → relM τ x w := fun x w h => by
    rcases h with h | ⟨k, hk, ha, hv, hx⟩
    · exact Or.inl h
    · exact Or.inr ⟨k, hk, (hth k hk).mpr ha, hv, by rw [e5]; exact hx⟩
  have scn : ∀ k t, k < 3600 → alM ν0 v k → SC ν0 v nc k t := fun k t hk ha => by
    rcases ha with od | ⟨fr, mv⟩
    · exact Or.inl od
    · obtain ⟨q, hq, hq2⟩ := c5 k hk fr mv
      exact Or.inr ⟨q, hq, hq2⟩
  have nz : ∀ i, (i = 0 ∨ i = 1 + c0) → i < 4 := fun i hi => by omega
  have r3 : ¬ (3 = 0 ∨ 3 = 1 + c0) := by omega
  refine ⟨?_, ⟨fun i hi j hj => ?_, fun i hi => ?_, by omega, ?_, ?_, ?_, ?_, ?_, ?_⟩, fun i hi => ?_, ?_, ⟨fun i hi => ⟨hi, ?_⟩, fun i j hi hj => ?_, fun k hk ht => ?_⟩, fun k hk ht => ?_, fun i hi => ?_, fun i hi => ?_, ⟨?_, fun k hk ht => ?_, fun k k' hk hk' ht ht' hne => ?_⟩, ?_, fun j hj => ?_⟩
  · show geoN (ppZ pp c0) σ.N
    have e2 : ∀ i, i < 4 → ppZ pp c0 i 2 ≤ pp i 1 := fun i h => by
      by_cases q : i = 0 ∨ i = 1 + c0
      · rw [ppZ_z q (Or.inl rfl)]; exact Nat.zero_le _
      · rw [ppZ_t q]; exact (hg.at h).1
    simp only [geoN, ppZ_0, ppZ_1]
    exact ⟨hg.1, ⟨e2 0 (by omega), e2 1 (by omega), e2 2 (by omega), e2 3 (by omega)⟩, hg.2.2⟩
  · show upP (upP σ.P 0 (σ.P 0 0, σ.P 0 1, 0, 0)) (1 + c0) (σ.P (1 + c0) 0, σ.P (1 + c0) 1, 0, 0) i j = _
    by_cases q : i = 1 + c0
    · subst q
      simp only [upP, if_pos rfl]
      rcases (show j = 0 ∨ j = 1 ∨ j = 2 ∨ j = 3 by omega) with rfl | rfl | rfl | rfl
      · rw [ppZ_0]; exact h2 _ hi 0 (by omega)
      · rw [ppZ_1]; exact h2 _ hi 1 (by omega)
      · rw [ppZ_z (Or.inr rfl) (Or.inl rfl)]; rfl
      · rw [ppZ_z (Or.inr rfl) (Or.inr rfl)]; rfl
    · by_cases q0 : i = 0
      · subst q0
        simp only [upP, if_neg q, if_pos rfl]
        rcases (show j = 0 ∨ j = 1 ∨ j = 2 ∨ j = 3 by omega) with rfl | rfl | rfl | rfl
        · rw [ppZ_0]; exact h2 _ hi 0 (by omega)
        · rw [ppZ_1]; exact h2 _ hi 1 (by omega)
        · rw [ppZ_z (Or.inl rfl) (Or.inl rfl)]; rfl
        · rw [ppZ_z (Or.inl rfl) (Or.inr rfl)]; rfl
      · simp only [upP, if_neg q, if_neg q0]
        rw [ppZ_t (fun z => z.elim q0 q)]; exact h2 i hi j hj
  · rw [ppZ_0, ppZ_1]
    have : τ.A 0 = v.A 0 := by rw [← a0, hτ]; rfl
    have w : τ.A 1 = v.A 1 := by rw [← a1, hτ]; rfl
    rw [this, w]; exact h3 i hi
  · show 1 - σ.F 2 = nI (1 - c0)
    rw [h5]
    rcases (show c0 = 0 ∨ c0 = 1 by omega) with e | e <;> subst e <;> decide
  · have : τ.M 1 = κ.M 1 := by rw [hτ]; rfl
    rw [this, m1, h6]
    rcases (show c0 = 0 ∨ c0 = 1 by omega) with e | e <;> subst e <;> decide
  · have : τ.M 2 = κ.M 2 := by rw [hτ]; rfl
    rw [this, m2]; exact h7
  · have : τ.M 6 = κ.M 6 := by rw [hτ]; rfl
    rw [this, m6, h8]; rfl
  · have : τ.M 7 = κ.M 7 := by rw [hτ]; rfl
    rw [this, m7]; exact h9
  · have : τ.M 8 = κ.M 8 := by rw [hτ]; rfl
    rw [this, m8]; exact h10
  · have : τ.A 2 = κ.A 2 := by rw [hτ]; rfl
    rw [this, a2, ppZ_0]
    by_cases q : i = 1 + c0
    · subst q; rw [pk_us, ppZ_z (Or.inr rfl) (Or.inl rfl), Nat.add_zero]; exact (h3 _ hi).1
    · rw [pk_un q]
      by_cases q0 : i = 0
      · subst q0; rw [pk_us, ppZ_z (Or.inl rfl) (Or.inl rfl), Nat.add_zero]; exact (h3 _ hi).1
      · rw [pk_un q0, ppZ_t (fun z => z.elim q0 q)]
        exact tp i ((split i hi).resolve_left (fun z => z.elim q0 q))
  · have e : 2 - (1 - c0) = 1 + c0 := by omega
    rw [e]; exact ⟨ppZ_z (Or.inr rfl) (Or.inl rfl), ppZ_z (Or.inr rfl) (Or.inr rfl)⟩
  · rcases split i hi with q | q
    · rw [ppZ_z q (Or.inl rfl), ppZ_z q (Or.inr rfl)]
      exact ⟨rfl, fun k hk => absurd hk (Nat.not_lt_zero _)⟩
    · rw [ppZ_0, ppZ_t (hto i q), ppZ_t (hto i q)]; exact (L.1 i q).2
  · rcases split i hi with q | q
    · rw [ppZ_z q (Or.inr rfl)] at hj; exact absurd hj (Nat.not_lt_zero _)
    · rw [ppZ_t (hto i q)] at hj
      have w := L.2.1 i j q hj
      rw [ppZ_0, e4, e5]
      exact ⟨w.1, (hth _ w.1).mpr w.2.1, w.2.2.1, w.2.2.2⟩
  · obtain ⟨i, j, hi, hj, e⟩ := L.2.2 k hk ((hth k hk).mp ht)
    exact ⟨i, j, (L.1 i hi).1, by rw [ppZ_t (hto i hi)]; exact hj, e⟩
  · have q := (hth k hk).mp ht
    have t3 := (hal k hk).mpr q
    obtain ⟨a, nf, nw, st, d1, d2, d3⟩ := C k hk q
    have z := d3.sz
    have tl := tle k hk t3
    rw [lk, z.2.1] at tl
    have dk := dat k hk t3
    rw [lk, z.2.1, z.2.2] at dk
    obtain ⟨b1, b2, ⟨b4, b5, b6, b7, b8⟩, b9, b10⟩ := d3
    refine ⟨a, nf, nw, tdN κ k, d1, by rw [e5]; exact d2, b1, b2, ⟨by rw [e7, a7]; exact b4, by rw [e8, a8]; exact b5, by rw [e6]; exact b6, st9 k hk t3, by omega⟩, fun t htt => ?_, fun t htt => ?_⟩
    · rw [dk t (by omega)]; exact rel _ _ ((b9 t htt).1 (scn k t hk q))
    · rw [Nat.add_assoc (tdN κ k) nf t, dk (nf + t) (by omega), ← Nat.add_assoc]; exact b10 t htt
  · rw [e15]; exact rel _ _ (hR i hi)
  · have x3 : τ.A 3 = κ.A 3 := e3
    have x4 : τ.A 4 = κ.A 4 := by rw [e4, a4]
    rw [ctM_congr x3 x4, szM_congr x3 x4 e7 e8]
    rcases split i hi with q | q
    · rw [ppZ_z q (Or.inl rfl), ppZ_z q (Or.inr rfl)]
      exact ⟨smF_zero 3600 (fun j hj => (ctz i q j hj).1), smF_zero 3600 (fun j hj => (ctz i q j hj).2)⟩
    · rw [ppZ_t (hto i q), ppZ_t (hto i q)]
      exact ⟨(smF_congr 3600 (fun j hj => (ctk i q j hj).1)).trans (s3 i q).1, (smF_congr 3600 (fun j hj => (ctk i q j hj).2)).trans (s3 i q).2⟩
  · rw [tdt]; rw [hτ]; rfl
  · have t3 : ¬ κ.A 3 k = 0 := by rw [← e3]; exact ht
    rw [tdt, stt k hk t3, lt, ← lk]; exact tle k hk t3
  · have t3 : ¬ κ.A 3 k = 0 := by rw [← e3]; exact ht
    have t3' : ¬ κ.A 3 k' = 0 := by rw [← e3]; exact ht'
    rw [stt k hk t3, stt k' hk' t3', lt, ← lk]
    rcases Nat.lt_or_gt_of_ne hne with q | q
    · have := tdN_le κ (show k + 1 ≤ k' by omega)
      rw [tdN_y κ t3] at this; exact Or.inl this
    · have := tdN_le κ (show k' + 1 ≤ k by omega)
      rw [tdN_y κ t3'] at this; exact Or.inr this
  · have : τ.M 4 = κ.M 4 := by rw [hτ]; rfl
    rw [this, m4, eo, hF.1, ppZ_t r3]
  · rw [ppZ_t r3] at hj
    have : τ.A 12 = κ.A 12 := by rw [hτ]; rfl
    rw [this, a12, eo]; exact hF.2 j hj
theorem st_collect (h : Sim σ μ) : StepOK yNr_collect cNr_collect 4 (gRc 8 1 6) yMd_collect cMd_collect 3 [] σ μ [(xIS, 1)] := by
  obtain ⟨pp, num, c0, hs⟩ := h
  have hc : c0 ≤ 1 := hs.2.1.2.2.1
  have g0 := hs.1.at (i := 0) (by omega)
  have gr := hs.1.at (i := 1 + c0) (by omega)
  have g3 := hs.1.at (i := 3) (by omega)
  have hM1 : μ.M 1 = nI (1 + c0) := hs.2.1.2.2.2.2.1
  have hP := hs.2.1.1
  have hlhs : σ.P 3 1 - σ.P 3 2 = nI (pp 3 1 - pp 3 2) := by rw [hP 3 (by omega) 1 (by omega), hP 3 (by omega) 2 (by omega), pk_sub (by omega)]
  have hrhs : σ.P 0 2 + σ.P (1 + c0) 2 = nI (pp 0 2 + pp (1 + c0) 2) := by rw [hP 0 (by omega) 2 (by omega), hP (1 + c0) (by omega) 2 (by omega), nI_add]
  have mlhs : μ.A 0 3 + μ.A 1 3 - μ.A 2 3 = nI (pp 3 1 - pp 3 2) := by
    rw [(hs.2.1.2.1 3 (by omega)).1, (hs.2.1.2.1 3 (by omega)).2, hs.2.2.1 3 (by omega), nI_add, pk_sub (by omega)]; congr 1; omega
  have mrhs : μ.A 2 0 - μ.A 0 0 + μ.A 2 (1 + c0) - μ.A 0 (1 + c0) = nI (pp 0 2 + pp (1 + c0) 2) := by
    rw [(hs.2.1.2.1 0 (by omega)).1, (hs.2.1.2.1 (1 + c0) (by omega)).1, hs.2.2.1 0 (by omega), hs.2.2.1 (1 + c0) (by omega), pk_sub (by omega), nI_add, pk_sub (by omega)]; congr 1; omega
  have hN : σ.N < 2 ^ 31 := by omega
  by_cases c : pp 3 1 - pp 3 2 < pp 0 2 + pp (1 + c0) 2
  · have q1 : σ.P 3 1 - σ.P 3 2 < σ.P 0 2 + σ.P (1 + c0) 2 := by rw [hlhs, hrhs]; exact nI_lt c (by omega)
    refine ⟨_, _, 0, μ.sM 0 1, fun l hfl D cI cP a => qNr_collect l hfl D cI cP a σ c0 0 σ (fun z => absurd q1 z) hs.rw hN, fun l D cI cZ b => qMd_collect_no l D cI cZ b μ (1 + c0) hM1 (by omega) (fun z => z ?_), fun r u hp => absurd q1 hp.1, fun E hE => ⟨1, by rw [hE.1]; exact List.mem_singleton.mpr rfl, rfl, hs.t0 1⟩⟩
    rw [mlhs, mrhs]; exact nI_lt c (by omega)
  · have q1 : ¬ σ.P 3 1 - σ.P 3 2 < σ.P 0 2 + σ.P (1 + c0) 2 := by rw [hlhs, hrhs]; exact nI_nlt (by omega) (by omega)
    have q2 : ¬ (μ.A 0 3 + μ.A 1 3 - μ.A 2 3 < μ.A 2 0 - μ.A 0 0 + μ.A 2 (1 + c0) - μ.A 0 (1 + c0)) := by rw [mlhs, mrhs]; exact nI_nlt (by omega) (by omega)
    obtain ⟨ν, hν⟩ : ∃ ν, ν = col0 μ (2 - c0) := ⟨_, rfl⟩
    have tm := hs.toMid (by omega)
    rw [← hν] at tm
    obtain ⟨M0, F0⟩ := tm
    have n3b : pp 3 3 ≤ 2730 := by
      have f3 := (hs.2.2.2.2.1.1 3 (by omega)).2.few
      have := hs.1.2.2.2.2.2
      omega
    have hD : ∀ k, k < 3600 → ¬ ν.A 3 k = 0 → stM ν k + lnM ν k ≤ 24000 := fun k hk t3 => by
      have w := hs.2.2.2.2.2.2.2.2.1.2.1 k hk (by rw [hν] at t3; exact t3)
      have := hs.few
      have e1 : stM ν = stM μ := stM_congr (by rw [hν]; rfl)
      have e2 : lnM ν = lnM μ := lnM_congr (by rw [hν]; rfl) (by rw [hν]; rfl)
      rw [e1, e2]; omega
    have r15 : ν.A 15 = μ.A 15 := by rw [hν]; rfl
    have rlν : relM ν = relM μ := relM_congr (by rw [hν]; rfl) (by rw [hν]; rfl)
    obtain ⟨σ1, μ1, pp1, num1, nc1, f1, f2, M1, F1, X1, R1⟩ := Mid.rts 16 0 (σ.sF 0 0) ν pp num 0 rfl M0 F0 (fun j hj => ⟨fun z => absurd z (Nat.not_lt_zero _), fun _ => by rw [rlν, r15]; exact hs.2.2.2.2.2.2.1 j hj⟩)
    obtain ⟨σ2, μ2, pp2, num2, nc2, k1, k2, M2, F2, X2, R2⟩ := Mid.olds hD (pp 3 3) 0 σ1 μ1 pp1 num1 nc1 (Nat.zero_add _) M1 F1
    obtain ⟨nC, σ3, μ3, pp3, num3, nc3, l1, l2, M3, F3, X3, R3⟩ := Mid.cps hD 512 0 σ2 μ2 pp2 num2 nc2 rfl (Nat.zero_le _) M2.toC F2
    obtain ⟨hTd, hSim⟩ := M3.fin F3 (fun j hj => by rw [R3, R2]; exact X3.rel (X2.rel (R1 j hj))) hD
    have hn512 : nc3 ≤ 512 := by have := M3.2.2.2.1.2.1; omega
    have cE : ColE σ c0 (nI nc3) ((((σ3.sP 0 (σ3.P 0 0, σ3.P 0 1, 0, 0)).sP (1 + c0) (σ3.P (1 + c0) 0, σ3.P (1 + c0) 1, 0, 0)).sF 2 (1 - σ3.F 2)).sF 3 (σ3.F 3 + 1)) :=
      ⟨pp 3 3, pp1 3 0, nC, σ1, σ2, σ3, by omega, hP 3 (by omega) 3 (by omega), M1.1.2.1.1 3 (by omega) 0 (by omega), f1, k1, l1, M3.2.2.2.2.1.1.symm, rfl⟩
    have cM : ColM μ (1 + c0) (2 - c0) (nI nc3) (tidM (col6 (col5 μ3 (pp 3 3) nc3) (1 + c0))) :=
      ⟨pp 3 3, nC, nc3, μ1, μ2, μ3, hs.2.2.2.2.2.2.2.2.2.1, by rw [← hν]; exact f2, k2, l2, M3.2.2.2.2.1.2.1, by omega, fun i hi => by
        obtain ⟨k, u1, u2, -⟩ := M3.2.2.2.2.1.2.2.1 i hi
        exact ⟨k, u1, u2⟩, hTd, rfl, rfl⟩
    have ho : 3 - μ.M 1 = nI (2 - c0) := by rw [hM1, show (3 : Int32) = nI 3 from rfl, pk_sub (by omega)]; congr 1; omega
    have m0 : (tidM (col6 (col5 μ3 (pp 3 3) nc3) (1 + c0))).M 0 = 0 := by
      have w : (tidM (col6 (col5 μ3 (pp 3 3) nc3) (1 + c0))).M 0 = μ3.M 0 := rfl
      rw [w, M3.1.2.2.1.2.2.2.2.2.2.2.2.2.2.1, hν]; rfl
    refine ⟨_, _, nI nc3, _, fun l hfl D cI cP a => qNr_collect l hfl D cI cP a σ c0 (nI nc3) _ (fun _ => cE) hs.rw hN, fun l D cI cZ b => qMd_collect_ok l D cI cZ b μ (1 + c0) (2 - c0) (nI nc3) _ cM hM1 (by omega) ho (by omega) q2, fun r u hp => ⟨m0, hp.2.1, by rw [hp.2.2]; exact ⟨_, _, _, hSim⟩⟩, fun E hE => absurd hE.2 q1⟩
end COL
