/-! HOW OBJECTS LIE: one behind the other -/
/-- the size of the object at k -/
def szX (X : Nat → Int32) (k : Nat) : Nat := 3 + (X k).toNatClampNeg + (X (k + 1)).toNatClampNeg
/-- the address of the n-th object from f on -/
def ch (X : Nat → Int32) (f : Nat) : Nat → Nat
  | 0 => f
  | n + 1 => ch X f n + szX X (ch X f n)
theorem ch_le (X : Nat → Int32) (f : Nat) : ∀ n m : Nat, n ≤ m → ch X f n + 3 * (m - n) ≤ ch X f m := by
  intro n m h
  induction m with
  | zero => have : n = 0 := by omega
            subst this; simp
  | succ m ih =>
    by_cases e : n = m + 1
    · subst e; simp
    · have := ih (by omega)
      simp only [ch, szX]
      omega
theorem ch_lt (X : Nat → Int32) (f : Nat) {n m : Nat} (h : n < m) : ch X f n + 3 ≤ ch X f m := by
  have := ch_le X f n m (by omega)
  omega
theorem ch_ge (X : Nat → Int32) (f n : Nat) : f + 3 * n ≤ ch X f n := by
  have h := ch_le X f 0 n (Nat.zero_le _)
  simpa [ch] using h
theorem ch_inj (X : Nat → Int32) (f : Nat) {n m : Nat} (h : ch X f n = ch X f m) : n = m := by
  rcases Nat.lt_trichotomy n m with q | q | q
  · have := ch_lt X f q; omega
  · exact q
  · have := ch_lt X f q; omega
/-- n objects lie from f on, in us cells -/
def Lay (X : Nat → Int32) (f us n : Nat) : Prop :=
  ch X f n = f + us ∧ ∀ k, k < n → ∃ nf nw : Nat, nf ≤ 200 ∧ nw ≤ 200 ∧ X (ch X f k) = nI nf ∧ X (ch X f k + 1) = nI nw
theorem Lay.sz {X : Nat → Int32} {f us n : Nat} (h : Lay X f us n) {k : Nat} (hk : k < n) : ∃ nf nw : Nat, nf ≤ 200 ∧ nw ≤ 200 ∧ X (ch X f k) = nI nf ∧ X (ch X f k + 1) = nI nw ∧ szX X (ch X f k) = 3 + nf + nw := by
  obtain ⟨nf, nw, h1, h2, h3, h4⟩ := h.2 k hk
  refine ⟨nf, nw, h1, h2, h3, h4, ?_⟩
  simp only [szX]
  rw [h3, h4, nI_clamp (by omega), nI_clamp (by omega)]
theorem Lay.few {X : Nat → Int32} {f us n : Nat} (h : Lay X f us n) : 3 * n ≤ us := by
  have := ch_ge X f n
  rw [h.1] at this
  omega
theorem Lay.in {X : Nat → Int32} {f us n : Nat} (h : Lay X f us n) {k : Nat} (hk : k < n) : f ≤ ch X f k ∧ ch X f k + szX X (ch X f k) ≤ f + us := by
  have h1 := ch_ge X f k
  have h2 := ch_le X f (k + 1) n (by omega)
  rw [h.1] at h2
  simp only [ch] at h2
  omega
/-- what holds of the class's cells between two calls: numbers p of its parts (first, cells, used, objects) -/
def nInv (σ : nSt) (p : Nat → Nat → Nat) : Prop :=
  (∀ i, i < 4 → ∀ j, j < 4 → σ.P i j = nI (p i j)) ∧ (∀ i, i < 4 → Lay σ.X (p i 0) (p i 2) (p i 3)) ∧
  (1 ≤ p 0 0 ∧ p 0 0 + p 0 2 ≤ p 1 0 ∧ p 1 0 + p 1 2 ≤ p 2 0 ∧ p 2 0 + p 2 2 ≤ p 3 0 ∧ p 3 0 + p 3 2 ≤ σ.N ∧ σ.N ≤ 10241)
/-- is x an object's address? -/
noncomputable def isOb (X : Nat → Int32) (p : Nat → Nat → Nat) (x : Int32) : Int32 := @ite Int32 (∃ i, i < 4 ∧ ∃ t, t < p i 3 ∧ x = nI (ch X (p i 0) t)) (Classical.propDecidable _) 1 0
theorem isOb_1 {X : Nat → Int32} {p : Nat → Nat → Nat} {x : Int32} (h : ∃ i, i < 4 ∧ ∃ t, t < p i 3 ∧ x = nI (ch X (p i 0) t)) : isOb X p x = 1 := if_pos h
theorem isOb_0 {X : Nat → Int32} {p : Nat → Nat → Nat} {x : Int32} (h : ¬ ∃ i, i < 4 ∧ ∃ t, t < p i 3 ∧ x = nI (ch X (p i 0) t)) : isOb X p x = 0 := if_neg h
theorem isOb_ne {X : Nat → Int32} {p : Nat → Nat → Nat} {x : Int32} (h : ¬ isOb X p x = 0) : ∃ i, i < 4 ∧ ∃ t, t < p i 3 ∧ x = nI (ch X (p i 0) t) := Classical.byContradiction fun q => h (isOb_0 q)
theorem nInv.ord {σ : nSt} {p : Nat → Nat → Nat} (h : nInv σ p) {i j : Nat} (hij : i < j) (hj : j < 4) : p i 0 + p i 2 ≤ p j 0 := by
  obtain ⟨-, -, h1, h2, h3, h4, h5, h6⟩ := h
  rcases (show (i = 0 ∧ j = 1) ∨ (i = 0 ∧ j = 2) ∨ (i = 0 ∧ j = 3) ∨ (i = 1 ∧ j = 2) ∨ (i = 1 ∧ j = 3) ∨ (i = 2 ∧ j = 3) by omega) with ⟨rfl, rfl⟩ | ⟨rfl, rfl⟩ | ⟨rfl, rfl⟩ | ⟨rfl, rfl⟩ | ⟨rfl, rfl⟩ | ⟨rfl, rfl⟩ <;> omega
theorem nInv.end {σ : nSt} {p : Nat → Nat → Nat} (h : nInv σ p) {i : Nat} (hi : i < 4) : 1 ≤ p i 0 ∧ p i 0 + p i 2 ≤ σ.N ∧ σ.N ≤ 10241 := by
  obtain ⟨-, -, h1, h2, h3, h4, h5, h6⟩ := h
  rcases (show i = 0 ∨ i = 1 ∨ i = 2 ∨ i = 3 by omega) with rfl | rfl | rfl | rfl <;> omega
/-- what 'covers' says, of small numbers -/
theorem ptCov_0 {f us : Nat} {x : Int32} (h : ptCov (nI f) (nI us) x = 0) (hb : f + us < 2 ^ 31) : ∀ k, f ≤ k → k < f + us → x ≠ nI k := by
  intro k h1 h2 e
  subst e
  simp only [ptCov, nI_add] at h
  rw [if_neg (nI_nlt h1 (by omega)), if_neg (nI_ge h2 hb)] at h
  exact absurd h (by decide)
theorem ptCov_1 {f us : Nat} {x : Int32} (h : ¬ ptCov (nI f) (nI us) x = 0) (hb : f + us < 2 ^ 31) : ∃ k, x = nI k ∧ f ≤ k ∧ k < f + us := by
  simp only [ptCov, nI_add] at h
  by_cases c1 : x < nI f
  · rw [if_pos c1] at h; exact absurd rfl h
  · rw [if_neg c1] at h
    by_cases c2 : nI (f + us) ≤ x
    · rw [if_pos c2] at h; exact absurd rfl h
    · have h0 : ¬ x < 0 := fun q => c1 (Int32.lt_of_lt_of_le q (nI_pos' (by omega)))
      obtain ⟨j, hj, rfl⟩ := nI_of h0
      refine ⟨j, rfl, ?_, ?_⟩
      · exact Nat.not_lt.mp fun q => c1 (nI_lt q (by omega))
      · exact Nat.not_le.mp fun q => c2 (nI_le q hj)
theorem pOf_spec {σ : nSt} {p : Nat → Nat → Nat} (h : nInv σ p) (x : Int32) : (∃ i k, i < 4 ∧ pOf σ x = nI i ∧ x = nI k ∧ p i 0 ≤ k ∧ k < p i 0 + p i 2) ∨ (pOf σ x = 4 ∧ ∀ i, i < 4 → ∀ k, p i 0 ≤ k → k < p i 0 + p i 2 → x ≠ nI k) := by
  have hp := h.1
  have e0 := h.end (i := 0) (by omega)
  have e1 := h.end (i := 1) (by omega)
  have e2 := h.end (i := 2) (by omega)
  have e3 := h.end (i := 3) (by omega)
  simp only [pOf]
  rw [hp 0 (by omega) 0 (by omega), hp 0 (by omega) 2 (by omega), hp 1 (by omega) 0 (by omega), hp 1 (by omega) 2 (by omega), hp 2 (by omega) 0 (by omega), hp 2 (by omega) 2 (by omega), hp 3 (by omega) 0 (by omega), hp 3 (by omega) 2 (by omega)]
  by_cases c0 : ptCov (nI (p 0 0)) (nI (p 0 2)) x = 0
  · by_cases c1 : ptCov (nI (p 1 0)) (nI (p 1 2)) x = 0
    · by_cases c2 : ptCov (nI (p 2 0)) (nI (p 2 2)) x = 0
      · by_cases c3 : ptCov (nI (p 3 0)) (nI (p 3 2)) x = 0
        · right
          refine ⟨by rw [if_pos c0, if_pos c1, if_pos c2, if_pos c3], fun i hi => ?_⟩
          rcases (show i = 0 ∨ i = 1 ∨ i = 2 ∨ i = 3 by omega) with rfl | rfl | rfl | rfl
          · exact ptCov_0 c0 (by omega)
          · exact ptCov_0 c1 (by omega)
          · exact ptCov_0 c2 (by omega)
          · exact ptCov_0 c3 (by omega)
        · left
          obtain ⟨k, a1, a2, a3⟩ := ptCov_1 c3 (by omega)
          exact ⟨3, k, by omega, by rw [if_pos c0, if_pos c1, if_pos c2, if_neg c3]; rfl, a1, a2, a3⟩
      · left
        obtain ⟨k, a1, a2, a3⟩ := ptCov_1 c2 (by omega)
        exact ⟨2, k, by omega, by rw [if_pos c0, if_pos c1, if_neg c2]; rfl, a1, a2, a3⟩
    · left
      obtain ⟨k, a1, a2, a3⟩ := ptCov_1 c1 (by omega)
      exact ⟨1, k, by omega, by rw [if_pos c0, if_neg c1]; rfl, a1, a2, a3⟩
  · left
    obtain ⟨k, a1, a2, a3⟩ := ptCov_1 c0 (by omega)
    exact ⟨0, k, by omega, by rw [if_neg c0]; rfl, a1, a2, a3⟩
/-- an object lies in just one part -/
theorem nInv.one {σ : nSt} {p : Nat → Nat → Nat} (h : nInv σ p) {i k : Nat} (hi : i < 4) (h1 : p i 0 ≤ k) (h2 : k < p i 0 + p i 2) {j t : Nat} (hj : j < 4) (ht : t < p j 3) (e : k = ch σ.X (p j 0) t) : j = i := by
  have hl := (h.2.1 j hj).in ht
  have hs : 3 ≤ szX σ.X (ch σ.X (p j 0) t) := by simp only [szX]; omega
  rcases Nat.lt_trichotomy j i with q | q | q
  · have := h.ord q hi; omega
  · exact q
  · have := h.ord q hj; omega
section ISOB
variable {σ : nSt} {pp : Nat → Nat → Nat} {x : Int32} {i k j : Nat}
theorem isob_s {e : Int32} {n m : Nat} (hn : n < 2 ^ 31) (hm : m < 2 ^ 31) (h1 : e = nI n) (h2 : e = nI m) : n = m := (nI_eq hn hm).mp (h1.symm.trans h2)
/-- the search has come to the j-th object of part i, all before lie ahead of k -/
theorem isob_n (h : nInv σ pp) (hi : i < 4) (hk1 : pp i 0 ≤ k) (hk2 : k < pp i 0 + pp i 2) (hxk : x = nI k) (hjk : ∀ t, t < j → ch σ.X (pp i 0) t < k) (hj : pp i 3 ≤ j ∨ k < ch σ.X (pp i 0) j) : isOb σ.X pp x = 0 := by
  refine isOb_0 fun ⟨i2, hi2, t, ht, e⟩ => ?_
  have hl := (h.2.1 i2 hi2).in ht
  have he2 := h.end hi2
  have he := h.end hi
  have hs : 3 ≤ szX σ.X (ch σ.X (pp i2 0) t) := by simp only [szX]; omega
  have e2 : k = ch σ.X (pp i2 0) t := isob_s (by omega) (by omega) hxk e
  have := h.one hi hk1 hk2 hi2 ht e2
  subst this
  rcases hj with hj | hj
  · have := hjk t (by omega); omega
  · rcases Nat.lt_trichotomy t j with q | q | q
    · have := hjk t q; omega
    · subst q; omega
    · have := ch_lt σ.X (pp i2 0) q; omega
theorem isob_y (hi : i < 4) (hj : j < pp i 3) (hx : nI (ch σ.X (pp i 0) j) = x) : isOb σ.X pp x = 1 := isOb_1 ⟨i, hi, j, hj, hx.symm⟩
end ISOB
