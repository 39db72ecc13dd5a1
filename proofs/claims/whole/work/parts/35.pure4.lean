/-! THE PURE HALF, 4: next -/
section NEXT
variable {σ : nSt} {μ : mSt} {pp num : Nat → Nat → Nat} {c0 : Nat}
/-- r is the least address behind x; 0 if there is none -/
def nxS (μ : mSt) (n : Nat) (x r : Int32) : Prop := (r = 0 ∧ ∀ k, k < n → th μ k → ¬ x < μ.A 5 k) ∨ (∃ k, k < n ∧ th μ k ∧ μ.A 5 k = r ∧ x < r ∧ ∀ k', k' < n → th μ k' → x < μ.A 5 k' → r ≤ μ.A 5 k')
theorem nxM_spec (x : Int32) (h0 : ∀ k, k < 3600 → th μ k → ¬ μ.A 5 k = 0) : ∀ t, t ≤ 3600 → nxS μ t x (nxM μ.A x t)
  | 0, _ => Or.inl ⟨rfl, fun k hk => absurd hk (Nat.not_lt_zero _)⟩
  | t + 1, ht => by
    have ih := nxM_spec x h0 t (by omega)
    by_cases c : (¬ μ.A 3 t = 0 ∧ x < μ.A 5 t) ∧ (nxM μ.A x t = 0 ∨ μ.A 5 t < nxM μ.A x t)
    · have e : nxM μ.A x (t + 1) = μ.A 5 t := by simp only [nxM]; rw [if_pos c]
      rw [e]
      refine Or.inr ⟨t, by omega, c.1.1, rfl, c.1.2, fun k' hk' ht' hx' => ?_⟩
      by_cases q : k' = t
      · rw [q]; exact Int32.le_refl _
      · rcases ih with ⟨-, i2⟩ | ⟨k, hk, hth, i1, i2, i3⟩
        · exact absurd hx' (i2 k' (by omega) ht')
        · have i4 := i3 k' (by omega) ht' hx'
          rcases c.2 with z | z
          · exact absurd (i1.trans z) (h0 k (by omega) hth)
          · exact Int32.le_of_lt (Int32.lt_of_lt_of_le z i4)
    · have e : nxM μ.A x (t + 1) = nxM μ.A x t := by simp only [nxM]; rw [if_neg c]
      rw [e]
      rcases ih with ⟨i1, i2⟩ | ⟨k, hk, hth, i1, i2, i3⟩
      · refine Or.inl ⟨i1, fun k' hk' ht' hx' => ?_⟩
        by_cases q : k' = t
        · subst q; exact c ⟨⟨ht', hx'⟩, Or.inl i1⟩
        · exact i2 k' (by omega) ht' hx'
      · refine Or.inr ⟨k, by omega, hth, i1, i2, fun k' hk' ht' hx' => ?_⟩
        by_cases q : k' = t
        · subst q; exact Int32.not_lt.mp fun z => c ⟨⟨ht', hx'⟩, Or.inr z⟩
        · exact i3 k' (by omega) ht' hx'
theorem nxS.uniq {n : Nat} {x r r' : Int32} (h : nxS μ n x r) (h' : nxS μ n x r') : r = r' := by
  rcases h with ⟨a1, a2⟩ | ⟨k, hk, ht, a1, a2, a3⟩
  · rcases h' with ⟨b1, -⟩ | ⟨k', hk', ht', b1, b2, b3⟩
    · rw [a1, b1]
    · exact absurd (by rw [b1]; exact b2) (a2 k' hk' ht')
  · rcases h' with ⟨b1, b2⟩ | ⟨k', hk', ht', b1, b2, b3⟩
    · exact absurd (by rw [a1]; exact a2) (b2 k hk ht)
    · have u := a3 k' hk' ht' (by rw [b1]; exact b2)
      have v := b3 k hk ht (by rw [a1]; exact a2)
      rw [b1] at u; rw [a1] at v
      exact Int32.le_antisymm u v
/-- an object's place among the others -/
theorem SimP.plc (hs : SimP σ μ pp num c0) {k : Nat} (hk : k < 3600) (ht : th μ k) : ∃ i j, i < 4 ∧ j < pp i 3 ∧ num i j = k ∧ μ.A 5 k = nI (ch σ.X (pp i 0) j) ∧ pp i 0 ≤ ch σ.X (pp i 0) j ∧ ch σ.X (pp i 0) j + 3 ≤ pp i 0 + pp i 2 ∧ pp i 0 + pp i 2 ≤ 10241 ∧ 1 ≤ ch σ.X (pp i 0) j := by
  obtain ⟨i, j, hi, hj, rfl⟩ := hs.2.2.2.2.1.2.2 k hk ht
  have r := hs.2.2.2.2.1.rng hs.1 hi hj
  have s := szX_3 σ.X (ch σ.X (pp i 0) j)
  have g := hs.1.at hi
  exact ⟨i, j, hi, hj, rfl, (hs.2.2.2.2.1.2.1 i j hi hj).2.2.2, r.1, by omega, by omega, r.2.2.1⟩
theorem fF_rec (σ : nSt) : fF σ 4 = 0 ∧ ∀ i, i < 4 → fF σ i = if σ.P i 3 ≤ 0 then fF σ (i + 1) else σ.P i 0 := by
  refine ⟨rfl, fun i hi => ?_⟩
  rcases (show i = 0 ∨ i = 1 ∨ i = 2 ∨ i = 3 by omega) with rfl | rfl | rfl | rfl <;> rfl
theorem SimP.first (hs : SimP σ μ pp num c0) (x : Int32) : ∀ n i, i + n = 4 → (∀ k, k < 3600 → th μ k → ∀ i' j, i' < i → j < pp i' 3 → num i' j = k → ¬ x < μ.A 5 k) → (∀ i' j, i ≤ i' → i' < 4 → j < pp i' 3 → x < nI (ch σ.X (pp i' 0) j)) → nxS μ 3600 x (fF σ i)
  | 0, i, hi, H1, H2 => by
    have : i = 4 := by omega
    subst this
    refine Or.inl ⟨rfl, fun k hk ht => ?_⟩
    obtain ⟨i', j', hi', hj', e, -⟩ := hs.plc hk ht
    exact H1 k hk ht i' j' hi' hj' e
  | n + 1, i, hi, H1, H2 => by
    have hi4 : i < 4 := by omega
    have g := hs.1.at hi4
    have hfw := (hs.2.2.2.2.1.1 i hi4).2.few
    rw [(fF_rec σ).2 i hi4, hs.2.1.1 i hi4 3 (by omega)]
    by_cases c : pp i 3 = 0
    · rw [c, if_pos (by decide)]
      refine hs.first x n (i + 1) (by omega) (fun k hk ht i' j hi' hj e => ?_) (fun i' j hi' => H2 i' j (by omega))
      by_cases q : i' = i
      · subst q; omega
      · exact H1 k hk ht i' j (by omega) hj e
    · rw [if_neg (nI_nle (by omega) (by omega)), hs.2.1.1 i hi4 0 (by omega)]
      have e := hs.2.2.2.2.1.2.1 i 0 hi4 (by omega)
      refine Or.inr ⟨num i 0, e.1, e.2.1, e.2.2.2, H2 i 0 (by omega) hi4 (by omega), fun k' hk' ht' hx' => ?_⟩
      obtain ⟨i', j', hi', hj', e', e5, r1, r2, r3, r4⟩ := hs.plc hk' ht'
      rw [e5]
      refine nI_le ?_ (by omega)
      rcases Nat.lt_trichotomy i' i with q | q | q
      · exact absurd hx' (H1 k' hk' ht' i' j' q hj' e')
      · subst q; exact r1
      · have := hs.1.ord q hi'; omega
theorem st_next (h : Sim σ μ) (x : Int32) : StepOK yNr_next cNr_next 4 (gRc 8 1 6) yMd_next cMd_next 5 [.int x] σ μ [(xNS, 1)] := by
  obtain ⟨pp, num, c0, hs⟩ := h
  have h0 : ∀ k, k < 3600 → th μ k → ¬ μ.A 5 k = 0 := fun k hk ht => by
    obtain ⟨i, j, hi, hj, -, e5, r1, r2, r3, r4⟩ := hs.plc hk ht
    rw [e5]; exact nI_ne0 (by omega) (by omega)
  have hM := nxM_spec x h0 3600 (Nat.le_refl _)
  have hob := hs.obj x
  by_cases c : x = 0 ∨ isOb σ.X pp x = 1
  · obtain ⟨ko, k1, k2⟩ : ∃ ko, (¬ x = 0 → objR μ x ko) ∧ (x = 0 ∨ ¬ ko < 0) := by
      rcases hob with ⟨h1, i, j, k, a, nf, nw, st, -, -, -, -, -, -, -, hk, -, -, -, -, hO⟩ | ⟨h1, hO⟩
      · exact ⟨nI k, fun _ => hO, Or.inr (nI_pos (by omega))⟩
      · refine ⟨-1, fun _ => hO, Or.inl (c.resolve_right (fun w => ?_))⟩
        rw [h1] at w; exact absurd w (by decide)
    refine ⟨_, _, _, μ.sM 0 0, fun l hfl D cI cP a => qNr_next l hfl D cI cP a σ pp x hs.inv, fun l D cI cZ b => qMd_next_ok l D cI cZ b μ x ko k1 k2, fun r u hp => ⟨rfl, ?_, ?_⟩, fun E hE => ?_⟩
    · refine nxS.uniq (μ := μ) (n := 3600) (x := x) ?_ hM
      rcases hp with ⟨rfl, rfl, -⟩ | ⟨x0, i, t, hi, ht, rfl, -, hc⟩
      · exact hs.first 0 4 0 rfl (fun k hk ht i' j hi' => absurd hi' (Nat.not_lt_zero _)) (fun i' j _ hi' hj => by
          have r := hs.2.2.2.2.1.rng hs.1 hi' hj
          have s := szX_3 σ.X (ch σ.X (pp i' 0) j)
          exact nI_lt (a := 0) (by omega) (by omega))
      · have g := hs.1.at hi
        have hL := (hs.2.2.2.2.1.1 i hi).2
        have r := hs.2.2.2.2.1.rng hs.1 hi ht
        have s := szX_3 σ.X (ch σ.X (pp i 0) t)
        have hsu : ch σ.X (pp i 0) (t + 1) = ch σ.X (pp i 0) t + szX σ.X (ch σ.X (pp i 0) t) := rfl
        rw [hs.2.1.1 i hi 0 (by omega), hs.2.1.1 i hi 2 (by omega)] at hc
        rcases hc with ⟨c1, rfl⟩ | ⟨c1, rfl⟩
        · obtain ⟨q, q1, q2, q3⟩ := ptCov_1 c1 (by omega)
          have q4 : ch σ.X (pp i 0) (t + 1) = q := (nI_eq (by omega) (by omega)).mp q1
          have ht1 : t + 1 < pp i 3 := by
            rcases Nat.lt_or_ge (t + 1) (pp i 3) with w | w
            · exact w
            · have : t + 1 = pp i 3 := by omega
              have e := hL.1
              rw [← this] at e; omega
          have e := hs.2.2.2.2.1.2.1 i (t + 1) hi ht1
          refine Or.inr ⟨num i (t + 1), e.1, e.2.1, e.2.2.2, nI_lt (by omega) (by omega), fun k' hk' ht' hx' => ?_⟩
          obtain ⟨i', j', hi', hj', e', e5, r1, r2, r3, r4⟩ := hs.plc hk' ht'
          rw [e5] at hx' ⊢
          have hx2 := (nI_ltI (by omega) (by omega)).mp hx'
          refine nI_le ?_ (by omega)
          rcases Nat.lt_trichotomy i' i with w | w | w
          · have := hs.1.ord w hi
            have := hs.1.at hi'; omega
          · subst w
            rcases Nat.lt_or_ge t j' with v | v
            · have := ch_le σ.X (pp i' 0) (t + 1) j' (by omega); omega
            · have := ch_le σ.X (pp i' 0) j' t v; omega
          · have := hs.1.ord w hi'; omega
        · have ht1 : t + 1 = pp i 3 := by
            rcases Nat.lt_or_ge (t + 1) (pp i 3) with w | w
            · have r' := hs.2.2.2.2.1.rng hs.1 hi w
              have s' := szX_3 σ.X (ch σ.X (pp i 0) (t + 1))
              exact absurd rfl (ptCov_0 c1 (by omega) _ r'.1 (by omega))
            · omega
          refine hs.first _ (3 - i) (i + 1) (by omega) (fun k hk htk i' j hi' hj e => ?_) (fun i' j hi' h4 hj => ?_)
          · subst e
            have hi'4 : i' < 4 := by omega
            have e := hs.2.2.2.2.1.2.1 i' j hi'4 hj
            have r' := hs.2.2.2.2.1.rng hs.1 hi'4 hj
            have s' := szX_3 σ.X (ch σ.X (pp i' 0) j)
            rw [e.2.2.2]
            refine nI_nlt ?_ (by omega)
            rcases Nat.lt_or_eq_of_le (Nat.le_of_lt_succ hi') with w | w
            · have := hs.1.ord w hi
              have := hs.1.at hi'4; omega
            · subst w
              have := ch_le σ.X (pp i' 0) j t (by omega); omega
          · have r' := hs.2.2.2.2.1.rng hs.1 h4 hj
            have s' := szX_3 σ.X (ch σ.X (pp i' 0) j)
            have := hs.1.ord (show i < i' by omega) h4
            exact nI_lt (by omega) (by omega)
    · have : u = σ := by
        rcases hp with ⟨-, -, e⟩ | ⟨-, i, t, -, -, -, e, -⟩ <;> exact e
      rw [this]; exact hs.t0 0
    · rcases c with w | w
      · exact absurd w hE.2.1
      · rw [hE.2.2] at w; exact absurd w (by decide)
  · have x0 : ¬ x = 0 := fun w => c (Or.inl w)
    rcases hob with ⟨h1, -⟩ | ⟨h1, hO⟩
    · exact absurd (Or.inr h1) c
    · refine ⟨_, _, 0, μ.sM 0 1, fun l hfl D cI cP a => qNr_next l hfl D cI cP a σ pp x hs.inv, fun l D cI cZ b => qMd_next_no l D cI cZ b μ x (-1) (fun _ => hO) (fun z => z.elim x0 (fun w => w (by decide))), fun r u hp => ?_, fun E hE => ⟨1, by rw [hE.1]; exact List.mem_singleton.mpr rfl, rfl, hs.t0 1⟩⟩
      rcases hp with ⟨e, -⟩ | ⟨-, i, t, hi, ht, e, -⟩
      · exact absurd e x0
      · rw [isOb_1 ⟨i, hi, t, ht, e⟩] at h1; exact absurd h1 (by decide)
end NEXT
