/-! THE PURE HALF, 1: sums; how numbered objects lie; what an object holds -/
def smF (f : Nat → Nat) : Nat → Nat
  | 0 => 0
  | t + 1 => smF f t + f t
theorem smF_congr {f g : Nat → Nat} : ∀ t, (∀ j, j < t → f j = g j) → smF f t = smF g t
  | 0, _ => rfl
  | t + 1, h => by simp only [smF]; rw [smF_congr t (fun j hj => h j (by omega)), h t (by omega)]
theorem smF_le {f g : Nat → Nat} : ∀ t, (∀ j, j < t → f j ≤ g j) → smF f t ≤ smF g t
  | 0, _ => Nat.le_refl _
  | t + 1, h => by
    have a := smF_le t (fun j hj => h j (by omega))
    have b := h t (by omega)
    simp only [smF]; omega
theorem smF_add {f g : Nat → Nat} : ∀ t, smF (fun k => f k + g k) t = smF f t + smF g t
  | 0 => rfl
  | t + 1 => by simp only [smF]; rw [smF_add t]; omega
theorem smF_one {f g : Nat → Nat} {k : Nat} (h : ∀ j, j ≠ k → f j = g j) : ∀ t, smF f t + (if k < t then g k else 0) = smF g t + (if k < t then f k else 0)
  | 0 => rfl
  | t + 1 => by
    have ih := smF_one h t
    simp only [smF]
    rcases Nat.lt_trichotomy k t with q | q | q
    · rw [if_pos q, if_pos q] at ih
      rw [if_pos (by omega), if_pos (by omega), h t (by omega)]; omega
    · subst q
      rw [if_neg (by omega), if_neg (by omega)] at ih
      rw [if_pos (by omega), if_pos (by omega)]; omega
    · rw [if_neg (by omega), if_neg (by omega)] at ih
      rw [if_neg (by omega), if_neg (by omega), h t (by omega)]; omega
theorem smF_ones : ∀ t, smF (fun _ => 1) t = t
  | 0 => rfl
  | t + 1 => by simp only [smF]; rw [smF_ones t]
theorem smF_zero {f : Nat → Nat} : ∀ t, (∀ j, j < t → f j = 0) → smF f t = 0
  | 0, _ => rfl
  | t + 1, h => by simp only [smF]; rw [smF_zero t (fun j hj => h j (by omega)), h t (by omega)]
def th (μ : mSt) (k : Nat) : Prop := ¬ μ.A 3 k = 0
def ctf (μ : mSt) (a : Int32) (k : Nat) : Nat := if ¬ μ.A 3 k = 0 ∧ μ.A 4 k = a then 1 else 0
def szf (μ : mSt) (a : Int32) (k : Nat) : Nat := if ¬ μ.A 3 k = 0 ∧ μ.A 4 k = a then 3 + lnM μ k else 0
def tdf (μ : mSt) (k : Nat) : Nat := if μ.A 3 k = 0 then 0 else lnM μ k
def ctM (μ : mSt) (a : Int32) : Nat := smF (ctf μ a) 3600
def szM (μ : mSt) (a : Int32) : Nat := smF (szf μ a) 3600
theorem cntM_sm (μ : mSt) (a : Int32) : ∀ t, cntM μ.A a t = smF (ctf μ a) t
  | 0 => rfl
  | t + 1 => by simp only [cntM, smF]; rw [cntM_sm μ a t]; rfl
theorem tdN_sm (μ : mSt) : ∀ t, tdN μ t = smF (tdf μ) t
  | 0 => rfl
  | t + 1 => by simp only [tdN, smF]; rw [tdN_sm μ t]; rfl
/-- X' has the headers that X has: so the addresses are the same -/
theorem ch_congr {X X' : Nat → Int32} {f : Nat} : ∀ {n : Nat}, (∀ j, j < n → X' (ch X f j) = X (ch X f j) ∧ X' (ch X f j + 1) = X (ch X f j + 1)) → ∀ j, j ≤ n → ch X' f j = ch X f j
  | n, h, 0, _ => rfl
  | n, h, j + 1, hj => by
    have ih := ch_congr h j (by omega)
    obtain ⟨a, b⟩ := h j (by omega)
    simp only [ch, szX]
    rw [ih, a, b]
theorem Lay.congr {X X' : Nat → Int32} {f us n : Nat} (h : Lay X f us n) (hX : ∀ j, j < n → X' (ch X f j) = X (ch X f j) ∧ X' (ch X f j + 1) = X (ch X f j + 1)) : Lay X' f us n := by
  have hc := ch_congr hX
  refine ⟨(hc n (Nat.le_refl _)).trans h.1, fun k hk => ?_⟩
  obtain ⟨nf, nw, a, b, c, d⟩ := h.2 k hk
  rw [hc k (by omega), (hX k hk).1, (hX k hk).2]
  exact ⟨nf, nw, a, b, c, d⟩
theorem Lay.push {X : Nat → Int32} {f us n nf nw : Nat} (h : Lay X f us n) (h0 : X (f + us) = nI nf) (h1 : X (f + us + 1) = nI nw) (hf : nf ≤ 200) (hw : nw ≤ 200) : Lay X f (us + (3 + nf + nw)) (n + 1) := by
  refine ⟨?_, fun k hk => ?_⟩
  · simp only [ch]
    rw [h.1]
    simp only [szX]
    rw [h0, h1, nI_clamp (by omega), nI_clamp (by omega)]
    omega
  · rcases Nat.lt_or_eq_of_le (Nat.le_of_lt_succ hk) with q | q
    · exact h.2 k q
    · subst q; rw [h.1]; exact ⟨nf, nw, hf, hw, h0, h1⟩
/-- where the parts lie -/
def geoN (pp : Nat → Nat → Nat) (N : Nat) : Prop :=
  (1 ≤ pp 0 0 ∧ pp 0 0 + pp 0 1 ≤ pp 1 0 ∧ pp 1 0 + pp 1 1 ≤ pp 2 0 ∧ pp 2 0 + pp 2 1 ≤ pp 3 0 ∧ pp 3 0 + pp 3 1 ≤ N ∧ N ≤ 10241) ∧ (pp 0 2 ≤ pp 0 1 ∧ pp 1 2 ≤ pp 1 1 ∧ pp 2 2 ≤ pp 2 1 ∧ pp 3 2 ≤ pp 3 1) ∧ (pp 0 1 ≤ 1024 ∧ pp 1 1 ≤ 512 ∧ pp 2 1 ≤ 512 ∧ pp 3 1 ≤ 8192)
theorem geoN.ord {pp : Nat → Nat → Nat} {N : Nat} (h : geoN pp N) {i j : Nat} (hij : i < j) (hj : j < 4) : pp i 0 + pp i 1 ≤ pp j 0 := by
  obtain ⟨⟨h1, h2, h3, h4, h5, h6⟩, -, -⟩ := h
  rcases (show (i = 0 ∧ j = 1) ∨ (i = 0 ∧ j = 2) ∨ (i = 0 ∧ j = 3) ∨ (i = 1 ∧ j = 2) ∨ (i = 1 ∧ j = 3) ∨ (i = 2 ∧ j = 3) by omega) with ⟨rfl, rfl⟩ | ⟨rfl, rfl⟩ | ⟨rfl, rfl⟩ | ⟨rfl, rfl⟩ | ⟨rfl, rfl⟩ | ⟨rfl, rfl⟩ <;> omega
theorem geoN.at {pp : Nat → Nat → Nat} {N : Nat} (h : geoN pp N) {i : Nat} (hi : i < 4) : pp i 2 ≤ pp i 1 ∧ 1 ≤ pp i 0 ∧ pp i 0 + pp i 1 ≤ N ∧ N ≤ 10241 := by
  obtain ⟨⟨h1, h2, h3, h4, h5, h6⟩, ⟨a, b, c, d⟩, -⟩ := h
  rcases (show i = 0 ∨ i = 1 ∨ i = 2 ∨ i = 3 by omega) with rfl | rfl | rfl | rfl <;> omega
/-- the objects of the parts Q are the numbers al -/
def LayN (Q al : Nat → Prop) (X : Nat → Int32) (μ : mSt) (pp num : Nat → Nat → Nat) : Prop :=
  (∀ i, Q i → i < 4 ∧ Lay X (pp i 0) (pp i 2) (pp i 3)) ∧
  (∀ i j, Q i → j < pp i 3 → num i j < 3600 ∧ al (num i j) ∧ μ.A 4 (num i j) = nI i ∧ μ.A 5 (num i j) = nI (ch X (pp i 0) j)) ∧
  (∀ k, k < 3600 → al k → ∃ i j, Q i ∧ j < pp i 3 ∧ num i j = k)
section LAYN
variable {Q al : Nat → Prop} {X : Nat → Int32} {μ : mSt} {pp num : Nat → Nat → Nat} {N : Nat}
theorem LayN.rng (h : LayN Q al X μ pp num) (hg : geoN pp N) {i j : Nat} (hi : Q i) (hj : j < pp i 3) : pp i 0 ≤ ch X (pp i 0) j ∧ ch X (pp i 0) j + szX X (ch X (pp i 0) j) ≤ pp i 0 + pp i 2 ∧ 1 ≤ ch X (pp i 0) j ∧ ch X (pp i 0) j + szX X (ch X (pp i 0) j) ≤ N ∧ N ≤ 10241 := by
  have a := (h.1 i hi).2.in hj
  have b := hg.at (h.1 i hi).1
  omega
theorem LayN.apart (h : LayN Q al X μ pp num) (hg : geoN pp N) {i j i' j' : Nat} (hi : Q i) (hj : j < pp i 3) (hi' : Q i') (hj' : j' < pp i' 3) (hne : ¬ (i = i' ∧ j = j')) :
    ch X (pp i 0) j + szX X (ch X (pp i 0) j) ≤ ch X (pp i' 0) j' ∨ ch X (pp i' 0) j' + szX X (ch X (pp i' 0) j') ≤ ch X (pp i 0) j := by
  have a := h.rng hg hi hj
  have b := h.rng hg hi' hj'
  have ga := hg.at (h.1 i hi).1
  have gb := hg.at (h.1 i' hi').1
  rcases Nat.lt_trichotomy i i' with q | q | q
  · have := hg.ord q (h.1 i' hi').1; omega
  · subst q
    rcases Nat.lt_trichotomy j j' with r | r | r
    · have := ch_le X (pp i 0) (j + 1) j' (by omega)
      simp only [ch] at this; omega
    · exact absurd ⟨rfl, r⟩ hne
    · have := ch_le X (pp i 0) (j' + 1) j (by omega)
      simp only [ch] at this; omega
  · have := hg.ord q (h.1 i hi).1; omega
theorem szX_3 (X : Nat → Int32) (a : Nat) : 3 ≤ szX X a := by simp only [szX]; omega
/-- of two numbers -/
theorem LayN.apk (h : LayN Q al X μ pp num) (hg : geoN pp N) {k k' a a' : Nat} (hk : k < 3600) (hk' : k' < 3600) (hl : al k) (hl' : al k') (ha : μ.A 5 k = nI a) (ha' : μ.A 5 k' = nI a') (h31 : a < 2 ^ 31) (h31' : a' < 2 ^ 31) (hne : k ≠ k') :
    a + szX X a ≤ a' ∨ a' + szX X a' ≤ a := by
  obtain ⟨i, j, hi, hj, rfl⟩ := h.2.2 k hk hl
  obtain ⟨i', j', hi', hj', rfl⟩ := h.2.2 k' hk' hl'
  have e := (h.2.1 i j hi hj).2.2.2
  have e' := (h.2.1 i' j' hi' hj').2.2.2
  have r := h.rng hg hi hj
  have r' := h.rng hg hi' hj'
  have s := szX_3 X (ch X (pp i 0) j)
  have s' := szX_3 X (ch X (pp i' 0) j')
  have w : a = ch X (pp i 0) j := (nI_eq h31 (by omega)).mp (ha.symm.trans e)
  have w' : a' = ch X (pp i' 0) j' := (nI_eq h31' (by omega)).mp (ha'.symm.trans e')
  rw [w, w']
  exact h.apart hg hi hj hi' hj' (fun z => hne (by rw [z.1, z.2]))
/-- an address is one number's -/
theorem LayN.uniq (h : LayN Q al X μ pp num) (hg : geoN pp N) {k k' : Nat} (hk : k < 3600) (hk' : k' < 3600) (hl : al k) (hl' : al k') (he : μ.A 5 k = μ.A 5 k') : k = k' := by
  obtain ⟨i, j, hi, hj, rfl⟩ := h.2.2 k hk hl
  obtain ⟨i', j', hi', hj', rfl⟩ := h.2.2 k' hk' hl'
  have e := (h.2.1 i j hi hj).2.2.2
  have e' := (h.2.1 i' j' hi' hj').2.2.2
  have r := h.rng hg hi hj
  have r' := h.rng hg hi' hj'
  have s := szX_3 X (ch X (pp i 0) j)
  have s' := szX_3 X (ch X (pp i' 0) j')
  have w : ch X (pp i 0) j = ch X (pp i' 0) j' := (nI_eq (by omega) (by omega)).mp (e.symm.trans (he.trans e'))
  by_cases q : i = i' ∧ j = j'
  · rw [q.1, q.2]
  · have := h.apart hg hi hj hi' hj' q
    omega
/-- a number's place -/
theorem LayN.at (h : LayN Q al X μ pp num) (hg : geoN pp N) {k : Nat} (hk : k < 3600) (hl : al k) : ∃ i a, Q i ∧ i < 4 ∧ μ.A 4 k = nI i ∧ μ.A 5 k = nI a ∧ pp i 0 ≤ a ∧ a + szX X a ≤ pp i 0 + pp i 2 ∧ 1 ≤ a ∧ a + szX X a ≤ N ∧ N ≤ 10241 := by
  obtain ⟨i, j, hi, hj, rfl⟩ := h.2.2 k hk hl
  have e := h.2.1 i j hi hj
  have r := h.rng hg hi hj
  exact ⟨i, _, hi, (h.1 i hi).1, e.2.2.1, e.2.2.2, r.1, r.2.1, r.2.2.1, r.2.2.2.1, r.2.2.2.2⟩
theorem LayN.congr (h : LayN Q al X μ pp num) {X' : Nat → Int32} {μ' : mSt} {al' : Nat → Prop} (hX : ∀ i j, Q i → j < pp i 3 → X' (ch X (pp i 0) j) = X (ch X (pp i 0) j) ∧ X' (ch X (pp i 0) j + 1) = X (ch X (pp i 0) j + 1)) (hA : ∀ k, k < 3600 → (al' k ↔ al k)) (h4 : ∀ k, k < 3600 → al k → μ'.A 4 k = μ.A 4 k ∧ μ'.A 5 k = μ.A 5 k) : LayN Q al' X' μ' pp num := by
  refine ⟨fun i hi => ⟨(h.1 i hi).1, (h.1 i hi).2.congr (hX i · hi)⟩, fun i j hi hj => ?_, fun k hk hl => h.2.2 k hk ((hA k hk).mp hl)⟩
  have e := h.2.1 i j hi hj
  have q := h4 _ e.1 e.2.1
  rw [ch_congr (hX i · hi) j (by omega)]
  exact ⟨e.1, (hA _ e.1).mpr e.2.1, q.1.trans e.2.2.1, q.2.trans e.2.2.2⟩
/-- the same part numbers but for one part, which has one object more -/
def puP (pp : Nat → Nat → Nat) (i0 sz : Nat) : Nat → Nat → Nat := fun i j => if i = i0 then (if j = 2 then pp i 2 + sz else if j = 3 then pp i 3 + 1 else pp i j) else pp i j
def puN (num : Nat → Nat → Nat) (i0 j0 k0 : Nat) : Nat → Nat → Nat := fun i j => if i = i0 ∧ j = j0 then k0 else num i j
theorem puP_ne {i i0 sz : Nat} (h : i ≠ i0) (j : Nat) : puP pp i0 sz i j = pp i j := if_neg h
theorem puP_0 (i0 sz i : Nat) : puP pp i0 sz i 0 = pp i 0 := by simp only [puP]; split <;> rfl
theorem puP_1 (i0 sz i : Nat) : puP pp i0 sz i 1 = pp i 1 := by simp only [puP]; split <;> rfl
theorem puP_2 (i0 sz : Nat) : puP pp i0 sz i0 2 = pp i0 2 + sz := by simp [puP]
theorem puP_3 (i0 sz : Nat) : puP pp i0 sz i0 3 = pp i0 3 + 1 := by simp [puP]
theorem geoN.push (hg : geoN pp N) {i0 sz : Nat} (hi : i0 < 4) (hs : pp i0 2 + sz ≤ pp i0 1) : geoN (puP pp i0 sz) N := by
  have e2 : ∀ i, i < 4 → puP pp i0 sz i 2 ≤ pp i 1 := fun i h => by
    by_cases q : i = i0
    · subst q; rw [puP_2]; exact hs
    · rw [puP_ne q]; exact (hg.at h).1
  simp only [geoN, puP_0, puP_1]
  exact ⟨hg.1, ⟨e2 0 (by omega), e2 1 (by omega), e2 2 (by omega), e2 3 (by omega)⟩, hg.2.2⟩
theorem LayN.push (h : LayN Q al X μ pp num) {i0 k0 nf nw : Nat} (hi0 : Q i0) (hk0 : k0 < 3600) (hf : nf ≤ 200) (hw : nw ≤ 200) {X' : Nat → Int32} {μ' : mSt} {al' : Nat → Prop}
    (hX : ∀ i j, Q i → j < pp i 3 → X' (ch X (pp i 0) j) = X (ch X (pp i 0) j) ∧ X' (ch X (pp i 0) j + 1) = X (ch X (pp i 0) j + 1)) (h0 : X' (pp i0 0 + pp i0 2) = nI nf) (h1 : X' (pp i0 0 + pp i0 2 + 1) = nI nw)
    (hA : ∀ k, k < 3600 → (al' k ↔ (al k ∨ k = k0))) (h4 : ∀ k, k < 3600 → al k → μ'.A 4 k = μ.A 4 k ∧ μ'.A 5 k = μ.A 5 k) (e4 : μ'.A 4 k0 = nI i0) (e5 : μ'.A 5 k0 = nI (pp i0 0 + pp i0 2)) :
    LayN Q al' X' μ' (puP pp i0 (3 + nf + nw)) (puN num i0 (pp i0 3) k0) := by
  have hc : ∀ i, Q i → ∀ j, j ≤ pp i 3 → ch X' (pp i 0) j = ch X (pp i 0) j := fun i hi => ch_congr (hX i · hi)
  refine ⟨fun i hi => ?_, fun i j hi hj => ?_, fun k hk hl => ?_⟩
  · refine ⟨(h.1 i hi).1, ?_⟩
    have hL := (h.1 i hi).2.congr (hX i · hi)
    by_cases q : i = i0
    · subst q; rw [puP_0, puP_2, puP_3]; exact hL.push h0 h1 hf hw
    · rw [puP_ne q, puP_ne q, puP_ne q]; exact hL
  · rw [puP_0]
    by_cases q : i = i0
    · subst q
      rw [puP_3] at hj
      by_cases r : j = pp i 3
      · subst r
        have en : puN num i (pp i 3) k0 i (pp i 3) = k0 := if_pos ⟨rfl, rfl⟩
        rw [en, hc i hi _ (Nat.le_refl _), (h.1 i hi).2.1]
        exact ⟨hk0, (hA _ hk0).mpr (Or.inr rfl), e4, e5⟩
      · have en : puN num i (pp i 3) k0 i j = num i j := if_neg (fun z => r z.2)
        have e := h.2.1 i j hi (by omega)
        have w := h4 _ e.1 e.2.1
        rw [en, hc i hi j (by omega)]
        exact ⟨e.1, (hA _ e.1).mpr (Or.inl e.2.1), w.1.trans e.2.2.1, w.2.trans e.2.2.2⟩
    · rw [puP_ne q] at hj
      have en : puN num i0 (pp i0 3) k0 i j = num i j := if_neg (fun z => q z.1)
      have e := h.2.1 i j hi hj
      have w := h4 _ e.1 e.2.1
      rw [en, hc i hi j (by omega)]
      exact ⟨e.1, (hA _ e.1).mpr (Or.inl e.2.1), w.1.trans e.2.2.1, w.2.trans e.2.2.2⟩
  · by_cases r : k = k0
    · subst r
      exact ⟨i0, pp i0 3, hi0, by rw [puP_3]; omega, if_pos ⟨rfl, rfl⟩⟩
    · obtain ⟨i, j, hi, hj, rfl⟩ := h.2.2 k hk (((hA k hk).mp hl).resolve_right r)
      refine ⟨i, j, hi, ?_, if_neg (fun z => ?_)⟩
      · by_cases q : i = i0
        · subst q; rw [puP_3]; omega
        · rw [puP_ne q]; exact hj
      · obtain ⟨rfl, rfl⟩ := z; omega
end LAYN
/-- what a root or field tells: nothing, or an object -/
def relM (μ : mSt) (x v : Int32) : Prop := (x = 0 ∧ v = 0) ∨ ∃ k, k < 3600 ∧ ¬ μ.A 3 k = 0 ∧ v = nI (k + 1) ∧ x = μ.A 5 k
/-- the object at a is number k -/
def obM (rl : Nat → Int32 → Int32 → Prop) (X : Nat → Int32) (μ : mSt) (a k nf nw st : Nat) : Prop :=
  (nf ≤ 200 ∧ nw ≤ 200) ∧ (X a = nI nf ∧ X (a + 1) = nI nw) ∧ (μ.A 7 k = nI nf ∧ μ.A 8 k = nI nw ∧ μ.A 6 k = X (a + 2) ∧ μ.A 9 k = nI st ∧ st ≤ 24000) ∧ (∀ t, t < nf → rl t (X (a + 3 + t)) (μ.A 10 (st + t))) ∧ (∀ t, t < nw → X (a + 3 + nf + t) = μ.A 10 (st + nf + t))
theorem obM.sz {rl : Nat → Int32 → Int32 → Prop} {X : Nat → Int32} {μ : mSt} {a k nf nw st : Nat} (h : obM rl X μ a k nf nw st) : szX X a = 3 + nf + nw ∧ lnM μ k = nf + nw ∧ stM μ k = st := by
  obtain ⟨⟨h1, h2⟩, ⟨h3, h4⟩, ⟨h5, h6, -, h7, h8⟩, -⟩ := h
  refine ⟨?_, ?_, ?_⟩
  · simp only [szX]; rw [h3, h4, nI_clamp (by omega), nI_clamp (by omega)]
  · simp only [lnM]; rw [h5, h6, nI_clamp (by omega), nI_clamp (by omega)]
  · simp only [stM]; rw [h7, nI_clamp (by omega)]
theorem obM.congr {rl rl' : Nat → Int32 → Int32 → Prop} {X X' : Nat → Int32} {μ μ' : mSt} {a k nf nw st : Nat} (h : obM rl X μ a k nf nw st) (hX : ∀ c, a ≤ c → c < a + (3 + nf + nw) → X' c = X c) (hm : μ'.A 7 k = μ.A 7 k ∧ μ'.A 8 k = μ.A 8 k ∧ μ'.A 6 k = μ.A 6 k ∧ μ'.A 9 k = μ.A 9 k) (hd : ∀ t, t < nf + nw → μ'.A 10 (st + t) = μ.A 10 (st + t))
    (hr : ∀ t x v, t < nf → rl t x v → rl' t x v) : obM rl' X' μ' a k nf nw st := by
  obtain ⟨h1, ⟨h3, h4⟩, ⟨h5, h6, h7, h8, h9⟩, hF, hW⟩ := h
  refine ⟨h1, ⟨(hX _ (by omega) (by omega)).trans h3, (hX _ (by omega) (by omega)).trans h4⟩, ⟨hm.1.trans h5, hm.2.1.trans h6, ?_, hm.2.2.2.trans h8, h9⟩, fun t ht => ?_, fun t ht => ?_⟩
  · rw [hX _ (by omega) (by omega), hm.2.2.1]; exact h7
  · rw [hX _ (by omega) (by omega), hd t (by omega)]; exact hr _ _ _ ht (hF t ht)
  · rw [hX _ (by omega) (by omega), Nat.add_assoc st nf t, hd (nf + t) (by omega), ← Nat.add_assoc]; exact hW t ht
/-- all numbers' contents -/
def CtN (al : Nat → Prop) (rl : Nat → Nat → Int32 → Int32 → Prop) (X : Nat → Int32) (μ : mSt) : Prop := ∀ k, k < 3600 → al k → ∃ a nf nw st, a < 2 ^ 31 ∧ μ.A 5 k = nI a ∧ obM (rl k) X μ a k nf nw st
/-- the reference's data -/
def refI (μ : mSt) : Prop :=
  μ.M 3 = nI (tdN μ 3600) ∧ (∀ k, k < 3600 → ¬ μ.A 3 k = 0 → stM μ k + lnM μ k ≤ tdN μ 3600) ∧
  (∀ k k', k < 3600 → k' < 3600 → ¬ μ.A 3 k = 0 → ¬ μ.A 3 k' = 0 → k ≠ k' → stM μ k + lnM μ k ≤ stM μ k' ∨ stM μ k' + lnM μ k' ≤ stM μ k)
/-- numbers that both keep -/
def scal (σ : nSt) (μ : mSt) (pp : Nat → Nat → Nat) (c0 : Nat) : Prop :=
  (∀ i, i < 4 → ∀ j, j < 4 → σ.P i j = nI (pp i j)) ∧ (∀ i, i < 4 → μ.A 0 i = nI (pp i 0) ∧ μ.A 1 i = nI (pp i 1)) ∧ (c0 ≤ 1 ∧ σ.F 2 = nI c0 ∧ μ.M 1 = nI (1 + c0) ∧ μ.M 2 = σ.F 1 ∧ μ.M 6 = σ.F 3 ∧ μ.M 7 = σ.F 4 ∧ μ.M 8 = σ.F 5)
/-- class and reference between two calls -/
def SimP (σ : nSt) (μ : mSt) (pp num : Nat → Nat → Nat) (c0 : Nat) : Prop :=
  geoN pp σ.N ∧ scal σ μ pp c0 ∧ (∀ i, i < 4 → μ.A 2 i = nI (pp i 0 + pp i 2)) ∧ (pp (2 - c0) 2 = 0 ∧ pp (2 - c0) 3 = 0) ∧ LayN (fun i => i < 4) (th μ) σ.X μ pp num ∧ CtN (th μ) (fun _ _ => relM μ) σ.X μ ∧
  (∀ i, i < 16 → relM μ (σ.R i) (μ.A 15 i)) ∧ (∀ i, i < 4 → ctM μ (nI i) = pp i 3 ∧ szM μ (nI i) = pp i 2) ∧ refI μ ∧ (μ.M 4 = nI (pp 3 3) ∧ ∀ j, j < pp 3 3 → μ.A 12 j = nI (num 3 j))
def Sim (σ : nSt) (μ : mSt) : Prop := ∃ pp num c0, SimP σ μ pp num c0
