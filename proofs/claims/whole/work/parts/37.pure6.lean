/-! THE PURE HALF, 6: in the midst of a collection; ν0 is the reference at its start -/
def Od (ν0 : mSt) (k : Nat) : Prop := ¬ ν0.A 3 k = 0 ∧ ν0.A 4 k = nI 3
def Fr (ν0 : mSt) (k : Nat) : Prop := ¬ ν0.A 3 k = 0 ∧ ¬ ν0.A 4 k = nI 3
def alM (ν0 μ : mSt) (k : Nat) : Prop := Od ν0 k ∨ (Fr ν0 k ∧ ¬ μ.A 14 k = 0)
def unM (ν0 μ : mSt) (k : Nat) : Prop := Fr ν0 k ∧ μ.A 14 k = 0
def relN (ν0 μ : mSt) (x v : Int32) : Prop := (x = 0 ∧ v = 0) ∨ ∃ k, k < 3600 ∧ alM ν0 μ k ∧ v = nI (k + 1) ∧ x = μ.A 5 k
/-- field t of number k: done (S), or not yet -/
def rlS (ν0 μ : mSt) (S : Nat → Nat → Prop) (k t : Nat) (x v : Int32) : Prop := (S k t → relN ν0 μ x v) ∧ (¬ S k t → relM ν0 x v)
/-- where the young ones lie -/
def MidG (ν0 : mSt) (c0 : Nat) (pp : Nat → Nat → Nat) : Prop :=
  (∀ k, k < 3600 → Fr ν0 k → ∃ i a, (i = 0 ∨ i = 1 + c0) ∧ ν0.A 4 k = nI i ∧ ν0.A 5 k = nI a ∧ pp i 0 ≤ a ∧ a + (3 + lnM ν0 k) ≤ pp i 0 + pp i 2) ∧
  (∀ k k' a a', k < 3600 → k' < 3600 → Fr ν0 k → Fr ν0 k' → k ≠ k' → a < 2 ^ 31 → a' < 2 ^ 31 → ν0.A 5 k = nI a → ν0.A 5 k' = nI a' → a + (3 + lnM ν0 k) ≤ a' ∨ a' + (3 + lnM ν0 k') ≤ a)
/-- the parts that are filled -/
def toP (c0 i : Nat) : Prop := i = 2 - c0 ∨ i = 3
def MidO (ν0 : mSt) (c0 : Nat) (S : Nat → Nat → Prop) (σ : nSt) (μ : mSt) (pp num : Nat → Nat → Nat) : Prop :=
  LayN (toP c0) (alM ν0 μ) σ.X μ pp num ∧ CtN (alM ν0 μ) (rlS ν0 μ S) σ.X μ ∧ CtN (unM ν0 μ) (fun _ _ => relM ν0) σ.X μ ∧
  (∀ k, k < 3600 → unM ν0 μ k → μ.A 4 k = ν0.A 4 k ∧ μ.A 5 k = ν0.A 5 k) ∧
  (∀ k, k < 3600 → Fr ν0 k → ¬ μ.A 14 k = 0 → ∃ a b, a < 2 ^ 31 ∧ 1 ≤ b ∧ b < 2 ^ 31 ∧ ν0.A 5 k = nI a ∧ μ.A 5 k = nI b ∧ σ.X a = -nI b) ∧
  (∀ k, k < 3600 → Od ν0 k → μ.A 4 k = nI 3 ∧ μ.A 5 k = ν0.A 5 k)
def MidS (c0 : Nat) (μ : mSt) (pp : Nat → Nat → Nat) (nc : Nat) : Prop :=
  pp 3 2 + (szM μ (nI 0) + szM μ (nI (1 + c0))) ≤ pp 3 1 ∧ nc + (ctM μ (nI 0) + ctM μ (nI (1 + c0))) ≤ 512 ∧ (∀ i, toP c0 i → ctM μ (nI i) = pp i 3 ∧ szM μ (nI i) = pp i 2)
def MidC (ν0 : mSt) (σ : nSt) (μ : mSt) (nc : Nat) : Prop :=
  σ.F 0 = nI nc ∧ μ.M 5 = nI nc ∧ (∀ q, q < nc → ∃ k, k < 3600 ∧ μ.A 13 q = nI k ∧ Fr ν0 k ∧ ¬ μ.A 14 k = 0 ∧ σ.C q = μ.A 5 k) ∧ (∀ q q', q < nc → q' < nc → μ.A 13 q = μ.A 13 q' → q = q') ∧ (∀ k, k < 3600 → Fr ν0 k → ¬ μ.A 14 k = 0 → ∃ q, q < nc ∧ μ.A 13 q = nI k)
def MidN (ν0 : mSt) (n3 : Nat) (pp num : Nat → Nat → Nat) : Prop := n3 ≤ pp 3 3 ∧ (∀ j, j < n3 → Od ν0 (num 3 j) ∧ ν0.A 12 j = nI (num 3 j)) ∧ (∀ k, k < 3600 → Od ν0 k → ∃ j, j < n3 ∧ num 3 j = k)
def Mid (ν0 : mSt) (c0 n3 : Nat) (S : Nat → Nat → Prop) (σ : nSt) (μ : mSt) (pp num : Nat → Nat → Nat) (nc : Nat) : Prop :=
  (geoN pp σ.N ∧ scal σ μ pp c0 ∧ fKp ν0 μ ∧ (∀ i, toP c0 i → μ.A 2 i = nI (pp i 0 + pp i 2))) ∧ MidG ν0 c0 pp ∧ MidO ν0 c0 S σ μ pp num ∧ MidS c0 μ pp nc ∧ MidC ν0 σ μ nc ∧ (∀ k t, k < 3600 → S k t → alM ν0 μ k) ∧ MidN ν0 n3 pp num
/-- one object moves: number k, from a, behind part i0's used cells -/
def MvE (σ σ' : nSt) (μ μ' : mSt) (pp : Nat → Nat → Nat) (i0 k a b sz nf nw nc : Nat) (ag : Int32) : Prop :=
  ((∀ c, c ≠ a → (c < b ∨ b + sz ≤ c) → σ'.X c = σ.X c) ∧ σ'.X a = -nI b ∧ σ'.X b = nI nf ∧ σ'.X (b + 1) = nI nw ∧ σ'.X (b + 2) = ag ∧ ∀ t, t < nf + nw → σ'.X (b + 3 + t) = σ.X (a + 3 + t)) ∧
  (μ'.A 4 = upd (μ.A 4) k (nI i0) ∧ μ'.A 5 = upd (μ.A 5) k (nI b) ∧ μ'.A 6 = upd (μ.A 6) k ag ∧ μ'.A 14 = upd (μ.A 14) k 1 ∧ μ'.A 13 = upd (μ.A 13) nc (nI k) ∧ μ'.A 2 = upd (μ.A 2) i0 (nI (b + sz)) ∧ μ'.M 5 = nI (nc + 1) ∧ fKp μ μ' ∧ μ'.M 7 = σ'.F 4 ∧ μ'.M 8 = σ'.F 5) ∧
  ((∀ i, i < 4 → ∀ j, j < 4 → σ'.P i j = nI (puP pp i0 sz i j)) ∧ σ'.F 0 = nI (nc + 1) ∧ σ'.F 1 = σ.F 1 ∧ σ'.F 2 = σ.F 2 ∧ σ'.F 3 = σ.F 3 ∧ σ'.N = σ.N ∧ σ'.R = σ.R ∧ σ'.C = upd σ.C nc (nI b))
theorem smF_ge {f : Nat → Nat} {k : Nat} : ∀ {t : Nat}, k < t → f k ≤ smF f t
  | 0, h => absurd h (Nat.not_lt_zero _)
  | t + 1, h => by
    simp only [smF]
    by_cases q : k = t
    · subst q; omega
    · have := smF_ge (f := f) (show k < t by omega); omega
section MID
variable {ν0 : mSt} {c0 n3 : Nat} {S : Nat → Nat → Prop} {σ σ' : nSt} {μ μ' : mSt} {pp num : Nat → Nat → Nat} {nc : Nat}
/-- the parts are apart -/
theorem Mid.geo (h : Mid ν0 c0 n3 S σ μ pp num nc) {i i' : Nat} (hi : i = 0 ∨ i = 1 + c0) (hi' : toP c0 i') : i < 4 ∧ i' < 4 ∧ i ≠ i' ∧ (pp i 0 + pp i 1 ≤ pp i' 0 ∨ pp i' 0 + pp i' 1 ≤ pp i 0) ∧ pp i 2 ≤ pp i 1 ∧ pp i' 2 ≤ pp i' 1 ∧ 1 ≤ pp i 0 ∧ 1 ≤ pp i' 0 ∧ pp i 0 + pp i 1 ≤ σ.N ∧ pp i' 0 + pp i' 1 ≤ σ.N ∧ σ.N ≤ 10241 := by
  have hc : c0 ≤ 1 := h.1.2.1.2.2.1
  have h4 : i < 4 := by omega
  have h4' : i' < 4 := by rcases hi' with q | q <;> omega
  have hne : i ≠ i' := by rcases hi' with q | q <;> omega
  have g := h.1.1.at h4
  have g' := h.1.1.at h4'
  refine ⟨h4, h4', hne, ?_, by omega, by omega, by omega, by omega, by omega, by omega, by omega⟩
  rcases Nat.lt_or_gt_of_ne hne with q | q
  · exact Or.inl (h.1.1.ord q h4')
  · exact Or.inr (h.1.1.ord q h4)
theorem Mid.ln (h : Mid ν0 c0 n3 S σ μ pp num nc) : lnM μ = lnM ν0 := lnM_congr h.1.2.2.1.2.2.2.1 h.1.2.2.1.2.2.2.2.1
theorem relN.mono (hA : ∀ j, j < 3600 → alM ν0 μ j → alM ν0 μ' j ∧ μ'.A 5 j = μ.A 5 j) {x v : Int32} (h : relN ν0 μ x v) : relN ν0 μ' x v := by
  rcases h with h | ⟨k, hk, ha, hv, hx⟩
  · exact Or.inl h
  · exact Or.inr ⟨k, hk, (hA k hk ha).1, hv, hx.trans (hA k hk ha).2.symm⟩
theorem Mid.move (h : Mid ν0 c0 n3 S σ μ pp num nc) {i0 k a b sz nf nw st : Nat} {ag : Int32} (hk : k < 3600) (hu : unM ν0 μ k) (hi0 : toP c0 i0) (ha : a < 2 ^ 31) (ha5 : ν0.A 5 k = nI a) (ho : obM (fun _ => relM ν0) σ.X μ a k nf nw st) (hb : b = pp i0 0 + pp i0 2) (hsz : sz = 3 + nf + nw) (hr : pp i0 2 + sz ≤ pp i0 1)
    (E : MvE σ σ' μ μ' pp i0 k a b sz nf nw nc ag) : Mid ν0 c0 n3 S σ' μ' (puP pp i0 sz) (puN num i0 (pp i0 3) k) (nc + 1) ∧ (∀ j, j < 3600 → alM ν0 μ j → alM ν0 μ' j ∧ μ'.A 5 j = μ.A 5 j) ∧ alM ν0 μ' k := by
  have hgeo := fun {i i' : Nat} => h.geo (i := i) (i' := i')
  have hln := h.ln
  obtain ⟨⟨hg, ⟨h2, h3, h4, h5, h6, h7, h8, h9, h10⟩, kp, tp⟩, ⟨G1, G2⟩, ⟨L, C, U, U2, Wd, O⟩, ⟨s1, s2, s3⟩, ⟨c1, c2, c3, c4, c5⟩, hS, N1, N2, N3⟩ := h
  obtain ⟨⟨x1, x2, x3, x4, x5, x6⟩, ⟨a4, a5, a6, a14, a13, a2, m5, kp', m7, m8⟩, sP, f0, f1, f2, f3, sN, sR, sC⟩ := E
  obtain ⟨ob1, ⟨ob2, ob3⟩, ⟨ob4, ob5, ob6, ob7, ob8⟩, ob9, ob10⟩ := id ho
  obtain ⟨z1, z2, z3⟩ := ho.sz
  have kp2 := kp.trans kp'
  obtain ⟨ka0, ka1, ka3, ka7, ka8, ka9, ka10, ka11, ka12, ka15, km0, km1, km2, km3, km4, km6⟩ := id kp'
  -- where k lies
  obtain ⟨ik, a', hik, e4k, e5k, r1, r2⟩ := G1 k hk hu.1
  have gk := hgeo hik hi0
  have ea : a = a' := (nI_eq ha (by omega)).mp (ha5.symm.trans e5k)
  subst ea
  rw [← hln, z2] at r2
  -- alive or not
  have nk : ¬ alM ν0 μ k := fun z => z.elim (fun w => hu.1.2 w.2) (fun w => w.2 hu.2)
  have ne : ∀ j, alM ν0 μ j → j ≠ k := fun j hj e => nk (e ▸ hj)
  have u14 : ∀ j, j ≠ k → μ'.A 14 j = μ.A 14 j := fun j hj => by rw [a14, pk_un hj]
  have v14 : ¬ μ'.A 14 k = 0 := by rw [a14, pk_us]; decide
  have hal : ∀ j, j < 3600 → (alM ν0 μ' j ↔ (alM ν0 μ j ∨ j = k)) := fun j _ => by
    by_cases q : j = k
    · subst q; exact ⟨fun _ => Or.inr rfl, fun _ => Or.inr ⟨hu.1, v14⟩⟩
    · simp only [alM]; rw [u14 j q]; exact ⟨Or.inl, fun w => w.resolve_right q⟩
  have hun : ∀ j, unM ν0 μ' j → j ≠ k ∧ unM ν0 μ j := fun j hj => by
    have q : j ≠ k := fun e => v14 (e ▸ hj.2)
    exact ⟨q, hj.1, by rw [← u14 j q]; exact hj.2⟩
  have hal5 : ∀ j, j < 3600 → alM ν0 μ j → alM ν0 μ' j ∧ μ'.A 5 j = μ.A 5 j := fun j hj w => ⟨(hal j hj).mpr (Or.inl w), by rw [a5, pk_un (ne j w)]⟩
  -- the cells
  have xt : ∀ i c, toP c0 i → pp i 0 ≤ c → c < pp i 0 + pp i 2 → σ'.X c = σ.X c := fun i c hi d1 d2 => by
    have g1 := hgeo hik hi
    refine x1 c (by omega) ?_
    by_cases q : i = i0
    · subst q; omega
    · have w := hg.at (i := i) g1.2.1
      have w0 := hg.at (i := i0) gk.2.1
      rcases Nat.lt_or_gt_of_ne q with v | v
      · have := hg.ord v gk.2.1; omega
      · have := hg.ord v g1.2.1; omega
  have xf : ∀ j, j < 3600 → Fr ν0 j → j ≠ k → ∀ aj, aj < 2 ^ 31 → ν0.A 5 j = nI aj → ∀ c, aj ≤ c → c < aj + (3 + lnM ν0 j) → σ'.X c = σ.X c := fun j hj fj q aj haj e5 c d1 d2 => by
    have w := G2 j k aj a hj hk fj hu.1 q haj ha e5 ha5
    obtain ⟨ij, a'', hij, -, e5', t1, t2⟩ := G1 j hj fj
    have gj := hgeo hij hi0
    have : aj = a'' := (nI_eq haj (by omega)).mp (e5.symm.trans e5')
    subst this
    rw [← hln, z2] at w
    refine x1 c (by rw [hln] at w; omega) (by omega)
  have hX : ∀ i j, toP c0 i → j < pp i 3 → σ'.X (ch σ.X (pp i 0) j) = σ.X (ch σ.X (pp i 0) j) ∧ σ'.X (ch σ.X (pp i 0) j + 1) = σ.X (ch σ.X (pp i 0) j + 1) := fun i j hi hj => by
    have r := L.rng hg hi hj
    have s := szX_3 σ.X (ch σ.X (pp i 0) j)
    exact ⟨xt i _ hi (by omega) (by omega), xt i _ hi (by omega) (by omega)⟩
  have npu : ∀ i j, (i = 0 ∨ i = 1 + c0) → puP pp i0 sz i j = pp i j := fun i j hi => puP_ne (hgeo hi hi0).2.2.1 j
  have hlk : lnM μ' = lnM μ := lnM_congr ka7 ka8
  -- sums at k
  have ct1 : ∀ x, ctM μ' x + ctf μ x k = ctM μ x + ctf μ' x k := fun x => by
    have w := smF_one (f := ctf μ' x) (g := ctf μ x) (k := k) (fun j hj => by simp only [ctf]; rw [ka3, a4, pk_un hj]) 3600
    rw [if_pos hk, if_pos hk] at w; exact w
  have sz1 : ∀ x, szM μ' x + szf μ x k = szM μ x + szf μ' x k := fun x => by
    have w := smF_one (f := szf μ' x) (g := szf μ x) (k := k) (fun j hj => by simp only [szf]; rw [ka3, a4, pk_un hj, hlk]) 3600
    rw [if_pos hk, if_pos hk] at w; exact w
  have tk : ¬ μ.A 3 k = 0 := by rw [kp.2.2.1]; exact hu.1.1
  have tk' : ¬ μ'.A 3 k = 0 := by rw [ka3]; exact tk
  have e4 : μ.A 4 k = nI ik := (U2 k hk hu).1.trans e4k
  have e4' : μ'.A 4 k = nI i0 := by rw [a4, pk_us]
  have cty : ∀ i, i < 4 → ctf μ (nI i) k = (if i = ik then 1 else 0) ∧ szf μ (nI i) k = (if i = ik then sz else 0) := fun i hi => by
    by_cases q : i = ik
    · subst q; rw [if_pos rfl, if_pos rfl]; exact ⟨if_pos ⟨tk, e4⟩, (if_pos ⟨tk, e4⟩).trans (by rw [z2]; omega)⟩
    · rw [if_neg q, if_neg q]
      have w : ¬ μ.A 4 k = nI i := by rw [e4]; exact fun z => q ((nI_eq (by omega) (by omega)).mp z).symm
      exact ⟨if_neg (fun z => w z.2), if_neg (fun z => w z.2)⟩
  have cty' : ∀ i, i < 4 → ctf μ' (nI i) k = (if i = i0 then 1 else 0) ∧ szf μ' (nI i) k = (if i = i0 then sz else 0) := fun i hi => by
    by_cases q : i = i0
    · subst q; rw [if_pos rfl, if_pos rfl]; exact ⟨if_pos ⟨tk', e4'⟩, (if_pos ⟨tk', e4'⟩).trans (by rw [hlk, z2]; omega)⟩
    · rw [if_neg q, if_neg q]
      have w : ¬ μ'.A 4 k = nI i := by rw [e4']; exact fun z => q ((nI_eq (by omega) (by omega)).mp z).symm
      exact ⟨if_neg (fun z => w z.2), if_neg (fun z => w z.2)⟩
  refine ⟨⟨⟨?_, ⟨sP, fun i hi => ?_, h4, f2.trans h5, km1.trans h6, ?_, ?_, m7, m8⟩, kp2, fun i hi => ?_⟩, ⟨fun j hj fj => ?_, G2⟩, ⟨?_, fun j hj hl => ?_, fun j hj hl => ?_, fun j hj hl => ?_, fun j hj fj mj => ?_, fun j hj oj => ?_⟩, ⟨?_, ?_, fun i hi => ?_⟩, ⟨f0, m5, fun q hq => ?_, fun q q' hq hq' he => ?_, fun j hj fj mj => ?_⟩, fun j t hj hs => (hal j hj).mpr (Or.inl (hS j t hj hs)), ?_, fun j hj => ?_, fun j hj oj => ?_⟩, hal5, (hal k hk).mpr (Or.inr rfl)⟩
  · rw [sN]; exact hg.push gk.2.1 hr
  · rw [ka0, ka1, puP_0, puP_1]; exact h3 i hi
  · rw [km2, f1]; exact h7
  · rw [km6, f3]; exact h8
  · rw [a2, puP_0]
    by_cases q : i = i0
    · subst q; rw [pk_us, puP_2, hb]; congr 1; omega
    · rw [pk_un q, puP_ne q]; exact tp i hi
  · obtain ⟨i, a1, w1, w2, w3, w4, w5⟩ := G1 j hj fj
    exact ⟨i, a1, w1, w2, w3, by rw [npu i 0 w1]; exact w4, by rw [npu i 0 w1, npu i 2 w1]; exact w5⟩
  · rw [hsz]
    exact L.push hi0 hk ob1.1 ob1.2 hX (by rw [← hb]; exact x3) (by rw [← hb]; exact x4) hal (fun j hj w => by rw [a4, a5, pk_un (ne j w), pk_un (ne j w)]; exact ⟨rfl, rfl⟩) e4' (by rw [a5, pk_us, hb])
  · by_cases q : j = k
    · subst q
      have w0 := hg.at (i := i0) gk.2.1
      refine ⟨b, nf, nw, st, by omega, by rw [a5, pk_us], ob1, ⟨x3, x4⟩, ⟨by rw [ka7]; exact ob4, by rw [ka8]; exact ob5, by rw [a6, pk_us, x5], by rw [ka9]; exact ob7, ob8⟩, fun t ht => ⟨fun w => absurd (hS j t hj w) nk, fun _ => ?_⟩, fun t ht => ?_⟩
      · rw [x6 t (by omega), ka10]; exact ob9 t ht
      · rw [show b + 3 + nf + t = b + 3 + (nf + t) by omega, x6 (nf + t) (by omega), ka10, show a + 3 + (nf + t) = a + 3 + nf + t by omega]; exact ob10 t ht
    · have w := ((hal j hj).mp hl).resolve_right q
      obtain ⟨aj, nfj, nwj, stj, d1, d2, d3⟩ := C j hj w
      obtain ⟨y1, y2, y3⟩ := d3.sz
      obtain ⟨i, aj', hi, hi4, -, e5j, t1, t2, -⟩ := L.at hg hj w
      have sa := szX_3 σ.X aj'
      have gi := hg.at hi4
      have ej : aj = aj' := (nI_eq d1 (by omega)).mp (d2.symm.trans e5j)
      subst ej
      exact ⟨aj, nfj, nwj, stj, d1, by rw [a5, pk_un q]; exact d2, d3.congr (fun c e1 e2 => xt i c hi (by omega) (by omega)) ⟨by rw [ka7], by rw [ka8], by rw [a6, pk_un q], by rw [ka9]⟩ (fun t _ => by rw [ka10]) (fun t x v _ w2 => ⟨fun s => (w2.1 s).mono hal5, w2.2⟩)⟩
  · obtain ⟨q, w⟩ := hun j hl
    obtain ⟨aj, nfj, nwj, stj, d1, d2, d3⟩ := U j hj w
    obtain ⟨y1, y2, y3⟩ := d3.sz
    have e5j : ν0.A 5 j = nI aj := (U2 j hj w).2.symm.trans d2
    rw [hln] at y2
    exact ⟨aj, nfj, nwj, stj, d1, by rw [a5, pk_un q]; exact d2, d3.congr (fun c e1 e2 => xf j hj w.1 q aj d1 e5j c e1 (by omega)) ⟨by rw [ka7], by rw [ka8], by rw [a6, pk_un q], by rw [ka9]⟩ (fun t _ => by rw [ka10]) (fun t x v _ w2 => w2)⟩
  · obtain ⟨q, w⟩ := hun j hl
    rw [a4, a5, pk_un q, pk_un q]; exact U2 j hj w
  · by_cases q : j = k
    · subst q
      have w0 := hg.at (i := i0) gk.2.1
      exact ⟨a, b, ha, by omega, by omega, ha5, by rw [a5, pk_us], x2⟩
    · obtain ⟨aj, bj, d1, d2, d3, d4, d5, d6⟩ := Wd j hj fj (by rw [← u14 j q]; exact mj)
      exact ⟨aj, bj, d1, d2, d3, d4, by rw [a5, pk_un q]; exact d5, by rw [xf j hj fj q aj d1 d4 aj (by omega) (by omega)]; exact d6⟩
  · have q : j ≠ k := ne j (Or.inl oj)
    rw [a4, a5, pk_un q, pk_un q]; exact O j hj oj
  · have i3 := hgeo (i := 0) (i' := i0) (Or.inl rfl) hi0
    have ir := hgeo (i := 1 + c0) (i' := i0) (Or.inr rfl) hi0
    have p0 := sz1 (nI 0)
    have pr := sz1 (nI (1 + c0))
    rw [(cty 0 (by omega)).2, (cty' 0 (by omega)).2, if_neg i3.2.2.1] at p0
    rw [(cty (1 + c0) (by omega)).2, (cty' (1 + c0) (by omega)).2, if_neg ir.2.2.1] at pr
    rw [puP_1]
    have p3 : puP pp i0 sz 3 2 ≤ pp 3 2 + sz := by
      by_cases q : 3 = i0
      · rw [← q, puP_2]; exact Nat.le_refl _
      · rw [puP_ne q]; omega
    rcases hik with q | q
    · subst q
      rw [if_pos rfl] at p0; rw [if_neg (by omega)] at pr; omega
    · subst q
      rw [if_pos rfl] at pr; rw [if_neg (by omega)] at p0; omega
  · have i3 := hgeo (i := 0) (i' := i0) (Or.inl rfl) hi0
    have ir := hgeo (i := 1 + c0) (i' := i0) (Or.inr rfl) hi0
    have p0 := ct1 (nI 0)
    have pr := ct1 (nI (1 + c0))
    rw [(cty 0 (by omega)).1, (cty' 0 (by omega)).1, if_neg i3.2.2.1] at p0
    rw [(cty (1 + c0) (by omega)).1, (cty' (1 + c0) (by omega)).1, if_neg ir.2.2.1] at pr
    rcases hik with q | q
    · subst q
      rw [if_pos rfl] at p0; rw [if_neg (by omega)] at pr; omega
    · subst q
      rw [if_pos rfl] at pr; rw [if_neg (by omega)] at p0; omega
  · have gi := hgeo hik hi
    have p1 := ct1 (nI i)
    have p2 := sz1 (nI i)
    rw [(cty i gi.2.1).1, (cty' i gi.2.1).1, if_neg (Ne.symm gi.2.2.1)] at p1
    rw [(cty i gi.2.1).2, (cty' i gi.2.1).2, if_neg (Ne.symm gi.2.2.1)] at p2
    have p3 := s3 i hi
    by_cases q : i = i0
    · subst q
      rw [if_pos rfl] at p1 p2
      rw [puP_2, puP_3]; omega
    · rw [if_neg q] at p1 p2
      rw [puP_ne q, puP_ne q]; omega
  · by_cases w : q = nc
    · subst w
      exact ⟨k, hk, by rw [a13, pk_us], hu.1, v14, by rw [sC, a5, pk_us, pk_us]⟩
    · obtain ⟨j, d1, d2, d3, d4, d5⟩ := c3 q (by omega)
      have nj : j ≠ k := fun e => d4 (e ▸ hu.2)
      exact ⟨j, d1, by rw [a13, pk_un w]; exact d2, d3, by rw [u14 j nj]; exact d4, by rw [sC, a5, pk_un w, pk_un nj]; exact d5⟩
  · by_cases w : q = nc
    · by_cases w' : q' = nc
      · omega
      · obtain ⟨j, d1, d2, d3, d4, d5⟩ := c3 q' (by omega)
        rw [w, a13, pk_us, pk_un w', d2] at he
        have : k = j := (nI_eq (by omega) (by omega)).mp he
        exact absurd hu.2 (this ▸ d4)
    · by_cases w' : q' = nc
      · obtain ⟨j, d1, d2, d3, d4, d5⟩ := c3 q (by omega)
        rw [w', a13, pk_us, pk_un w, d2] at he
        have : j = k := (nI_eq (by omega) (by omega)).mp he
        exact absurd hu.2 (this ▸ d4)
      · rw [a13, pk_un w, pk_un w'] at he
        exact c4 q q' (by omega) (by omega) he
  · by_cases q : j = k
    · exact ⟨nc, by omega, by rw [a13, pk_us, q]⟩
    · obtain ⟨r, d1, d2⟩ := c5 j hj fj (by rw [← u14 j q]; exact mj)
      exact ⟨r, by omega, by rw [a13, pk_un (by omega)]; exact d2⟩
  · by_cases q : 3 = i0
    · rw [← q, puP_3]; omega
    · rw [puP_ne q]; exact N1
  · have : puN num i0 (pp i0 3) k 3 j = num 3 j := if_neg (fun z => by
      obtain ⟨w1, w2⟩ := z
      rw [← w1] at w2; omega)
    rw [this]; exact N2 j hj
  · obtain ⟨q, d1, d2⟩ := N3 j hj oj
    have : puN num i0 (pp i0 3) k 3 q = num 3 q := if_neg (fun z => by
      obtain ⟨w1, w2⟩ := z
      rw [← w1] at w2; omega)
    exact ⟨q, d1, by rw [this]; exact d2⟩
end MID
