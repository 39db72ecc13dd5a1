/-! THE PURE HALF, 7: one root or field is followed, on both sides -/
/-- the old ones, as the copies come -/
def MidF (n3 : Nat) (μ : mSt) (pp num : Nat → Nat → Nat) (nc : Nat) : Prop := (ofF μ n3 nc).2 = pp 3 3 ∧ ∀ j, j < pp 3 3 → (ofF μ n3 nc).1 j = nI (num 3 j)
theorem ofF_congr {μ μ' : mSt} {m0 : Nat} (h12 : μ'.A 12 = μ.A 12) : ∀ t, (∀ q, q < t → μ'.A 13 q = μ.A 13 q ∧ μ'.A 4 (μ.A 13 q).toNatClampNeg = μ.A 4 (μ.A 13 q).toNatClampNeg) → ofF μ' m0 t = ofF μ m0 t
  | 0, _ => by simp only [ofF]; rw [h12]
  | t + 1, h => by
    have ih := ofF_congr (m0 := m0) h12 t (fun q hq => h q (by omega))
    have w := h t (by omega)
    simp only [ofF]
    rw [ih, w.1, w.2]
/-- what never goes back -/
def Ext (ν0 μ : mSt) (nc : Nat) (μ' : mSt) (nc' : Nat) : Prop := (∀ j, j < 3600 → alM ν0 μ j → alM ν0 μ' j ∧ μ'.A 5 j = μ.A 5 j) ∧ nc ≤ nc' ∧ ∀ q, q < nc → μ'.A 13 q = μ.A 13 q
theorem Ext.rfl' (ν0 μ : mSt) (nc : Nat) : Ext ν0 μ nc μ nc := ⟨fun _ _ h => ⟨h, rfl⟩, Nat.le_refl _, fun _ _ => rfl⟩
theorem Ext.trans {ν0 μ μ' μ'' : mSt} {nc nc' nc'' : Nat} (h : Ext ν0 μ nc μ' nc') (k : Ext ν0 μ' nc' μ'' nc'') : Ext ν0 μ nc μ'' nc'' :=
  ⟨fun j hj w => ⟨(k.1 j hj (h.1 j hj w).1).1, (k.1 j hj (h.1 j hj w).1).2.trans (h.1 j hj w).2⟩, Nat.le_trans h.2.1 k.2.1, fun q hq => (k.2.2 q (Nat.lt_of_lt_of_le hq h.2.1)).trans (h.2.2 q hq)⟩
theorem Ext.rel {ν0 μ μ' : mSt} {nc nc' : Nat} (h : Ext ν0 μ nc μ' nc') {x v : Int32} (r : relN ν0 μ x v) : relN ν0 μ' x v := r.mono h.1
section MID2
variable {ν0 : mSt} {c0 n3 : Nat} {S : Nat → Nat → Prop} {σ σ' : nSt} {μ μ' : mSt} {pp num : Nat → Nat → Nat} {nc : Nat}
theorem Mid.F1 (h : Mid ν0 c0 n3 S σ μ pp num nc) (hF : MidF n3 μ pp num nc) {i0 k a b sz nf nw : Nat} {ag : Int32} (hk : k < 3600) (hu : unM ν0 μ k) (hi0 : toP c0 i0) (E : MvE σ σ' μ μ' pp i0 k a b sz nf nw nc ag) : MidF n3 μ' (puP pp i0 sz) (puN num i0 (pp i0 3) k) (nc + 1) := by
  have hc : c0 ≤ 1 := h.1.2.1.2.2.1
  obtain ⟨-, ⟨a4, a5, a6, a14, a13, a2, m5, kp', m7, m8⟩, -⟩ := E
  have hc3 := h.2.2.2.2.1.2.2.1
  have e : ofF μ' n3 nc = ofF μ n3 nc := ofF_congr kp'.2.2.2.2.2.2.2.2.1 nc (fun q hq => by
    obtain ⟨j, d1, d2, d3, d4, d5⟩ := hc3 q hq
    have nj : j ≠ k := fun e => d4 (e ▸ hu.2)
    rw [a13, pk_un (by omega), a4, d2, nI_clamp (by omega), pk_un nj]
    exact ⟨rfl, rfl⟩)
  have e13 : μ'.A 13 nc = nI k := by rw [a13, pk_us]
  have e4 : μ'.A 4 (μ'.A 13 nc).toNatClampNeg = nI i0 := by rw [e13, nI_clamp (by omega), a4, pk_us]
  rcases hi0 with q | q
  · have n4 : ¬ μ'.A 4 (μ'.A 13 nc).toNatClampNeg = 3 := by
      rw [e4]; exact fun z => absurd ((nI_eq (a := i0) (b := 3) (by omega) (by omega)).mp z) (by omega)
    have n3i : (3 : Nat) ≠ i0 := by omega
    simp only [MidF]
    rw [ofF_n n4, e, puP_ne n3i]
    refine ⟨hF.1, fun j hj => ?_⟩
    have : puN num i0 (pp i0 3) k 3 j = num 3 j := if_neg (fun z => n3i z.1)
    rw [this]; exact hF.2 j hj
  · subst q
    have y4 : μ'.A 4 (μ'.A 13 nc).toNatClampNeg = 3 := e4
    simp only [MidF]
    rw [ofF_y1 y4, ofF_y2 y4, e, e13, puP_3, hF.1]
    refine ⟨rfl, fun j hj => ?_⟩
    by_cases w : j = pp 3 3
    · subst w
      have : puN num 3 (pp 3 3) k 3 (pp 3 3) = k := if_pos ⟨rfl, rfl⟩
      rw [pk_us, this]
    · have : puN num 3 (pp 3 3) k 3 j = num 3 j := if_neg (fun z => w z.2)
      rw [pk_un w, this]; exact hF.2 j (by omega)
theorem upP_pu {P : Nat → Nat → Int32} (hP : ∀ i, i < 4 → ∀ j, j < 4 → P i j = nI (pp i j)) {i0 sz : Nat} (h0 : i0 < 4) : ∀ i, i < 4 → ∀ j, j < 4 → upP P i0 (P i0 0, P i0 1, P i0 2 + nI sz, P i0 3 + 1) i j = nI (puP pp i0 sz i j) := by
  intro i hi j hj
  by_cases q : i = i0
  · subst q
    rcases (show j = 0 ∨ j = 1 ∨ j = 2 ∨ j = 3 by omega) with rfl | rfl | rfl | rfl
    · rw [puP_0, ← hP i hi 0 (by omega)]; exact if_pos rfl
    · rw [puP_1, ← hP i hi 1 (by omega)]; exact if_pos rfl
    · rw [puP_2, ← nI_add, ← hP i hi 2 (by omega)]; exact if_pos rfl
    · rw [puP_3, ← nI_1, ← hP i hi 3 (by omega)]; exact if_pos rfl
  · rw [puP_ne q, ← hP i hi j hj]; exact if_neg q
theorem cpy_o {X : Nat → Int32} {a b sz c : Nat} (h : c < b ∨ b + sz ≤ c) : va_cpy X X a b sz c = X c := if_neg (by omega)
theorem cpy_i {X : Nat → Int32} {a b sz t : Nat} (h : t < sz) : va_cpy X X a b sz (b + t) = X (a + t) := by
  show (if b ≤ b + t ∧ b + t < b + sz then X (a + (b + t - b)) else X (b + t)) = _
  rw [if_pos (by omega)]; congr 1; omega
theorem mvE_O (h : Mid ν0 c0 n3 S σ μ pp num nc) {k a nf nw st : Nat} (ho : obM (fun _ => relM ν0) σ.X μ a k nf nw st) {b sz : Nat} (hb : b = pp 3 0 + pp 3 2) (hsz : sz = 3 + nf + nw) (hd : a < b ∨ b + sz ≤ a) : MvE σ (cpO σ a sz b nc) μ (mvO μ k nc) pp 3 k a b sz nf nw nc (μ.A 6 k) := by
  obtain ⟨ob1, ⟨ob2, ob3⟩, ⟨ob4, ob5, ob6, ob7, ob8⟩, ob9, ob10⟩ := ho
  obtain ⟨⟨hg, ⟨h2, h3, h4, h5, h6, h7, h8, h9, h10⟩, kp, tp⟩, -, -, -, ⟨c1, c2, -⟩, -⟩ := h
  have t3 : μ.A 2 3 = nI b := by rw [hb]; exact tp 3 (Or.inr rfl)
  refine ⟨⟨fun c q1 q2 => ?_, ?_, ?_, ?_, ?_, fun t ht => ?_⟩, ⟨rfl, ?_, rfl, rfl, rfl, ?_, ?_, ⟨rfl, rfl, rfl, rfl, rfl, rfl, rfl, rfl, rfl, rfl, rfl, rfl, rfl, rfl, rfl, rfl⟩, ?_, ?_⟩, ?_, rfl, rfl, rfl, rfl, rfl, rfl, rfl⟩
  · show upd (va_cpy σ.X σ.X a b sz) a (-nI b) c = σ.X c
    rw [pk_un q1, cpy_o q2]
  · show upd (va_cpy σ.X σ.X a b sz) a (-nI b) a = -nI b
    rw [pk_us]
  · show upd (va_cpy σ.X σ.X a b sz) a (-nI b) b = nI nf
    have := cpy_i (X := σ.X) (a := a) (b := b) (sz := sz) (t := 0) (by omega)
    rw [pk_un (by omega)]; simp only [Nat.add_zero] at this; rw [this, ob2]
  · show upd (va_cpy σ.X σ.X a b sz) a (-nI b) (b + 1) = nI nw
    rw [pk_un (by omega), cpy_i (by omega), ob3]
  · show upd (va_cpy σ.X σ.X a b sz) a (-nI b) (b + 2) = μ.A 6 k
    rw [pk_un (by omega), cpy_i (by omega), ob6]
  · show upd (va_cpy σ.X σ.X a b sz) a (-nI b) (b + 3 + t) = σ.X (a + 3 + t)
    rw [pk_un (by omega), Nat.add_assoc b 3 t, cpy_i (by omega), Nat.add_assoc]
  · show upd (μ.A 5) k (μ.A 2 3) = upd (μ.A 5) k (nI b)
    rw [t3]
  · show upd (μ.A 2) 3 (μ.A 2 3 + (3 + μ.A 7 k + μ.A 8 k)) = upd (μ.A 2) 3 (nI (b + sz))
    rw [t3, ob4, ob5, show (3 : Int32) = nI 3 from rfl, nI_add, nI_add, nI_add, hsz]
  · show μ.M 5 + 1 = nI (nc + 1)
    rw [c2, nI_1]
  · exact h9
  · show μ.M 8 + 1 = σ.F 5 + 1
    rw [h10]
  · exact upP_pu h2 (by omega)
theorem mvE_R (h : Mid ν0 c0 n3 S σ μ pp num nc) {k a nf nw st : Nat} (ho : obM (fun _ => relM ν0) σ.X μ a k nf nw st) {o b sz : Nat} (hoo : o = 2 - c0) (hb : b = pp o 0 + pp o 2) (hsz : sz = 3 + nf + nw) (hd : a < b ∨ b + sz ≤ a) : MvE σ (cpR σ o a sz b nc) μ (mvR μ o k nc) pp o k a b sz nf nw nc (μ.A 6 k + 1) := by
  obtain ⟨ob1, ⟨ob2, ob3⟩, ⟨ob4, ob5, ob6, ob7, ob8⟩, ob9, ob10⟩ := ho
  obtain ⟨⟨hg, ⟨h2, h3, h4, h5, h6, h7, h8, h9, h10⟩, kp, tp⟩, -, -, -, ⟨c1, c2, -⟩, -⟩ := h
  have t3 : μ.A 2 o = nI b := by rw [hb]; exact tp o (Or.inl hoo)
  have ag : va_cpy σ.X σ.X a b sz (b + 2) = μ.A 6 k := by rw [cpy_i (by omega), ob6]
  refine ⟨⟨fun c q1 q2 => ?_, ?_, ?_, ?_, ?_, fun t ht => ?_⟩, ⟨rfl, ?_, rfl, rfl, rfl, ?_, ?_, ⟨rfl, rfl, rfl, rfl, rfl, rfl, rfl, rfl, rfl, rfl, rfl, rfl, rfl, rfl, rfl, rfl⟩, ?_, ?_⟩, ?_, rfl, rfl, rfl, rfl, rfl, rfl, rfl⟩
  · show upd (upd (va_cpy σ.X σ.X a b sz) (b + 2) (va_cpy σ.X σ.X a b sz (b + 2) + 1)) a (-nI b) c = σ.X c
    rw [pk_un q1, pk_un (by omega), cpy_o q2]
  · show upd (upd (va_cpy σ.X σ.X a b sz) (b + 2) (va_cpy σ.X σ.X a b sz (b + 2) + 1)) a (-nI b) a = -nI b
    rw [pk_us]
  · show upd (upd (va_cpy σ.X σ.X a b sz) (b + 2) (va_cpy σ.X σ.X a b sz (b + 2) + 1)) a (-nI b) b = nI nf
    have := cpy_i (X := σ.X) (a := a) (b := b) (sz := sz) (t := 0) (by omega)
    rw [pk_un (by omega), pk_un (by omega)]; simp only [Nat.add_zero] at this; rw [this, ob2]
  · show upd (upd (va_cpy σ.X σ.X a b sz) (b + 2) (va_cpy σ.X σ.X a b sz (b + 2) + 1)) a (-nI b) (b + 1) = nI nw
    rw [pk_un (by omega), pk_un (by omega), cpy_i (by omega), ob3]
  · show upd (upd (va_cpy σ.X σ.X a b sz) (b + 2) (va_cpy σ.X σ.X a b sz (b + 2) + 1)) a (-nI b) (b + 2) = μ.A 6 k + 1
    rw [pk_un (by omega), pk_us, ag]
  · show upd (upd (va_cpy σ.X σ.X a b sz) (b + 2) (va_cpy σ.X σ.X a b sz (b + 2) + 1)) a (-nI b) (b + 3 + t) = σ.X (a + 3 + t)
    rw [pk_un (by omega), pk_un (by omega), Nat.add_assoc b 3 t, cpy_i (by omega), Nat.add_assoc]
  · show upd (μ.A 5) k (μ.A 2 o) = upd (μ.A 5) k (nI b)
    rw [t3]
  · show upd (μ.A 2) o (μ.A 2 o + (3 + μ.A 7 k + μ.A 8 k)) = upd (μ.A 2) o (nI (b + sz))
    rw [t3, ob4, ob5, show (3 : Int32) = nI 3 from rfl, nI_add, nI_add, nI_add, hsz]
  · show μ.M 5 + 1 = nI (nc + 1)
    rw [c2, nI_1]
  · show μ.M 7 + 1 = σ.F 4 + 1
    rw [h9]
  · exact h10
  · exact upP_pu h2 (by omega)
theorem isY_in (h2 : ∀ i, i < 4 → ∀ j, j < 4 → σ.P i j = nI (pp i j)) (hc : c0 ≤ 1) (hb : ∀ i, i < 4 → pp i 0 + pp i 2 ≤ 10241) {i a : Nat} (hi : i = 0 ∨ i = 1 + c0) (h1 : pp i 0 ≤ a) (h3 : a < pp i 0 + pp i 2) : ¬ isY σ c0 (nI a) = 0 := by
  simp only [isY]
  rw [h2 0 (by omega) 0 (by omega), h2 0 (by omega) 2 (by omega), h2 (1 + c0) (by omega) 0 (by omega), h2 (1 + c0) (by omega) 2 (by omega)]
  by_cases q : ptCov (nI (pp 0 0)) (nI (pp 0 2)) (nI a) = 0
  · rw [if_pos q]
    have b0 := hb 0 (by omega)
    have b1 := hb (1 + c0) (by omega)
    have n1 := ptCov_0 q (by omega)
    rcases hi with w | w
    · subst w; exact absurd rfl (n1 a h1 h3)
    · subst w
      by_cases q2 : ptCov (nI (pp (1 + c0) 0)) (nI (pp (1 + c0) 2)) (nI a) = 0
      · exact absurd rfl (ptCov_0 q2 (by omega) a h1 h3)
      · rw [if_neg q2]; decide
  · rw [if_neg q]; decide
theorem isY_out (h2 : ∀ i, i < 4 → ∀ j, j < 4 → σ.P i j = nI (pp i j)) (hc : c0 ≤ 1) (hb : ∀ i, i < 4 → pp i 0 + pp i 2 ≤ 10241) {a : Nat} (ha : a < 2 ^ 31) (h1 : ∀ i, (i = 0 ∨ i = 1 + c0) → a < pp i 0 ∨ pp i 0 + pp i 2 ≤ a) : isY σ c0 (nI a) = 0 := by
  simp only [isY]
  rw [h2 0 (by omega) 0 (by omega), h2 0 (by omega) 2 (by omega), h2 (1 + c0) (by omega) 0 (by omega), h2 (1 + c0) (by omega) 2 (by omega)]
  have n : ∀ i, (i = 0 ∨ i = 1 + c0) → ptCov (nI (pp i 0)) (nI (pp i 2)) (nI a) = 0 := fun i hi => Classical.byContradiction fun q => by
    have b0 := hb i (by omega)
    obtain ⟨k, e, k1, k2⟩ := ptCov_1 q (by omega)
    have : a = k := (nI_eq ha (by omega)).mp e
    have := h1 i hi
    omega
  rw [if_pos (n 0 (Or.inl rfl)), if_pos (n (1 + c0) (Or.inr rfl))]
theorem neg_lt {b : Nat} (h1 : 1 ≤ b) (h2 : b < 2 ^ 30) : -nI b < 0 := by
  have e : -nI b = nI 0 - nI b := by rw [nI_0]; exact (Int32.zero_sub _).symm
  rw [e]; exact pk_sneg h2 (by omega)
/-- one step: the class follows x, the reference finds v -/
theorem Mid.fol (h : Mid ν0 c0 n3 S σ μ pp num nc) (hF : MidF n3 μ pp num nc) {x v : Int32} (hrel : relM ν0 x v) :
    ∃ r σ' μ' pp' num' nc', Fol σ c0 x r σ' ∧ Fnd (2 - c0) μ v μ' ∧ Mid ν0 c0 n3 S σ' μ' pp' num' nc' ∧ MidF n3 μ' pp' num' nc' ∧ relN ν0 μ' r v ∧ Ext ν0 μ nc μ' nc' ∧ σ'.R = σ.R := by
  have hgeo := fun {i i' : Nat} => h.geo (i := i) (i' := i')
  have hln := h.ln
  obtain ⟨⟨hg, ⟨h2, h3, h4, h5, h6, h7, h8, h9, h10⟩, kp, tp⟩, ⟨G1, G2⟩, ⟨L, C, U, U2, Wd, O⟩, ⟨s1, s2, s3⟩, ⟨c1, c2, c3, c4, c5⟩, hS, N1, N2, N3⟩ := id h
  have hb4 : ∀ i, i < 4 → pp i 0 + pp i 2 ≤ 10241 := fun i hi => by have := hg.at hi; omega
  rcases hrel with ⟨rfl, rfl⟩ | ⟨k, hk, tk, rfl, rfl⟩
  · refine ⟨0, σ, μ, pp, num, nc, Or.inl ⟨?_, rfl, rfl⟩, Or.inl ⟨rfl, rfl⟩, h, hF, Or.inl ⟨rfl, rfl⟩, Ext.rfl' _ _ _, rfl⟩
    refine isY_out (a := 0) h2 h4 hb4 (by omega) (fun i hi => ?_)
    have := hg.at (i := i) (by omega)
    omega
  · by_cases od : ν0.A 4 k = nI 3
    · have oo : Od ν0 k := ⟨tk, od⟩
      have ok := O k hk oo
      obtain ⟨i, a, hi, hi4, e4, e5, r1, r2, r3, r4, r5⟩ := L.at hg hk (Or.inl oo)
      have sa := szX_3 σ.X a
      refine ⟨ν0.A 5 k, σ, μ, pp, num, nc, Or.inl ⟨?_, rfl, rfl⟩, Or.inr (Or.inl ⟨k, hk, rfl, ok.1, rfl⟩), h, hF, Or.inr ⟨k, hk, Or.inl oo, rfl, ok.2.symm⟩, Ext.rfl' _ _ _, rfl⟩
      rw [← ok.2, e5]
      refine isY_out h2 h4 hb4 (by omega) (fun i' hi' => ?_)
      have g := hgeo hi' hi
      omega
    · have fr : Fr ν0 k := ⟨tk, od⟩
      obtain ⟨ik, a, hik, e4k, e5k, r1, r2⟩ := G1 k hk fr
      have gk := hgeo hik (Or.inr rfl)
      have hy : ¬ isY σ c0 (nI a) = 0 := isY_in h2 h4 hb4 hik r1 (by omega)
      by_cases mv : μ.A 14 k = 0
      · have un : unM ν0 μ k := ⟨fr, mv⟩
        obtain ⟨a', nf, nw, st, d1, d2, d3⟩ := U k hk un
        have ea : a = a' := (nI_eq (by omega) d1).mp (e5k.symm.trans ((U2 k hk un).2.symm.trans d2))
        subst ea
        obtain ⟨ob1, ⟨ob2, ob3⟩, ⟨ob4, ob5, ob6, ob7, ob8⟩, ob9, ob10⟩ := id d3
        obtain ⟨z1, z2, z3⟩ := d3.sz
        rw [← hln, z2] at r2
        have e4 : μ.A 4 k = nI ik := (U2 k hk un).1.trans e4k
        have tk' : ¬ μ.A 3 k = 0 := by rw [kp.2.2.1]; exact tk
        have n4 : ¬ μ.A 4 k = 3 := by rw [(U2 k hk un).1]; exact od
        have xn : ¬ σ.X a < 0 := by rw [ob2]; exact nI_pos (by omega)
        -- room in OLD, room among the copies
        have w1 : ctf μ (nI ik) k = 1 := if_pos ⟨tk', e4⟩
        have w2 : szf μ (nI ik) k = 3 + nf + nw := (if_pos ⟨tk', e4⟩).trans (by rw [z2]; omega)
        have w3 : 1 ≤ ctM μ (nI ik) := w1 ▸ smF_ge (f := ctf μ (nI ik)) hk
        have w4 : 3 + nf + nw ≤ szM μ (nI ik) := w2 ▸ smF_ge (f := szf μ (nI ik)) hk
        have hnc : nc < 512 := by rcases hik with q | q <;> (subst q; omega)
        have hold : pp 3 2 + (3 + nf + nw) ≤ pp 3 1 := by rcases hik with q | q <;> (subst q; omega)
        have go := hgeo hik (Or.inl rfl)
        have hro : σ.P (2 - c0) 1 - σ.P (2 - c0) 2 = nI (pp (2 - c0) 1 - pp (2 - c0) 2) := by rw [h2 _ (by omega) 1 (by omega), h2 _ (by omega) 2 (by omega), pk_sub (by omega)]
        have hrm : μ.A 2 (2 - c0) + (3 + μ.A 7 k + μ.A 8 k) = nI (pp (2 - c0) 0 + pp (2 - c0) 2 + (3 + nf + nw)) := by rw [tp _ (Or.inl rfl), ob4, ob5, show (3 : Int32) = nI 3 from rfl, nI_add, nI_add, nI_add]
        have hrs : μ.A 0 (2 - c0) + μ.A 1 (2 - c0) = nI (pp (2 - c0) 0 + pp (2 - c0) 1) := by rw [(h3 _ (by omega)).1, (h3 _ (by omega)).2, nI_add]
        by_cases st' : σ.X (a + 2) < σ.F 1 ∧ pp (2 - c0) 2 + (3 + nf + nw) ≤ pp (2 - c0) 1
        · have E := mvE_R h d3 (o := 2 - c0) (b := pp (2 - c0) 0 + pp (2 - c0) 2) rfl rfl rfl (by omega)
          obtain ⟨M1, M2, M3⟩ := h.move hk un (Or.inl rfl) d1 e5k d3 rfl rfl st'.2 E
          refine ⟨nI (pp (2 - c0) 0 + pp (2 - c0) 2), cpR σ (2 - c0) a (3 + nf + nw) (pp (2 - c0) 0 + pp (2 - c0) 2) nc, mvR μ (2 - c0) k nc, _, _, nc + 1, Or.inr (Or.inr (Or.inl ⟨a, nf, nw, _, _, nc, e5k, by rw [e5k]; exact hy, xn, ⟨ob2, ob3, ob1.1, ob1.2, by omega, h2 _ (by omega) 0 (by omega), h2 _ (by omega) 2 (by omega), by omega, hnc, c1⟩, st'.1, ?_, rfl, rfl⟩)), Or.inr (Or.inr (Or.inr (Or.inl ⟨k, nc, hk, rfl, n4, mv, c2, by omega, ?_, ?_, rfl⟩))), M1, h.F1 hF hk un (Or.inl rfl) E, Or.inr ⟨k, hk, M3, rfl, ?_⟩, ⟨M2, by omega, fun q hq => ?_⟩, rfl⟩
          · rw [hro]; exact nI_nlt (by omega) (by omega)
          · rw [ob6, h7]; exact st'.1
          · rw [hrm, hrs]; exact nI_le (by omega) (by omega)
          · rw [E.2.1.2.1, pk_us]
          · rw [E.2.1.2.2.2.2.1, pk_un (by omega)]
        · have E := mvE_O h d3 (b := pp 3 0 + pp 3 2) rfl rfl (by omega)
          obtain ⟨M1, M2, M3⟩ := h.move hk un (Or.inr rfl) d1 e5k d3 rfl rfl hold E
          refine ⟨nI (pp 3 0 + pp 3 2), cpO σ a (3 + nf + nw) (pp 3 0 + pp 3 2) nc, mvO μ k nc, _, _, nc + 1, Or.inr (Or.inr (Or.inr ⟨a, nf, nw, _, _, nc, e5k, by rw [e5k]; exact hy, xn, ⟨ob2, ob3, ob1.1, ob1.2, by omega, h2 _ (by omega) 0 (by omega), h2 _ (by omega) 2 (by omega), by omega, hnc, c1⟩, ?_, rfl, rfl⟩)), Or.inr (Or.inr (Or.inr (Or.inr ⟨k, nc, hk, rfl, n4, mv, c2, by omega, fun w => st' ⟨?_, ?_⟩, rfl⟩))), M1, h.F1 hF hk un (Or.inr rfl) E, Or.inr ⟨k, hk, M3, rfl, ?_⟩, ⟨M2, by omega, fun q hq => ?_⟩, rfl⟩
          · by_cases q : σ.X (a + 2) < σ.F 1
            · right
              rw [hro]
              have hz : ¬ pp (2 - c0) 2 + (3 + nf + nw) ≤ pp (2 - c0) 1 := fun z => st' ⟨q, z⟩
              exact nI_lt (by omega) (by omega)
            · exact Or.inl q
          · rw [← ob6, ← h7]; exact w.1
          · have := w.2
            rw [hrm, hrs] at this
            have := (nI_leI (by omega) (by omega)).mp this
            omega
          · rw [E.2.1.2.1, pk_us]
          · rw [E.2.1.2.2.2.2.1, pk_un (by omega)]
      · obtain ⟨a', b, d1, d2, d3, d4, d5, d6⟩ := Wd k hk fr mv
        have ea : a = a' := (nI_eq (by omega) d1).mp (e5k.symm.trans d4)
        subst ea
        have alk : alM ν0 μ k := Or.inr ⟨fr, mv⟩
        obtain ⟨i, b', -, -, -, e5, -, t2, t3, t4, t5⟩ := L.at hg hk alk
        have sb := szX_3 σ.X b'
        have eb : b = b' := (nI_eq d3 (by omega)).mp (d5.symm.trans e5)
        subst eb
        refine ⟨nI b, σ, μ, pp, num, nc, Or.inr (Or.inl ⟨a, e5k, by omega, by rw [e5k]; exact hy, by rw [d6]; exact neg_lt t3 (by omega), by rw [d6, Int32.neg_neg], rfl⟩), ?_, h, hF, Or.inr ⟨k, hk, alk, rfl, d5.symm⟩, Ext.rfl' _ _ _, rfl⟩
        by_cases q : μ.A 4 k = 3
        · exact Or.inr (Or.inl ⟨k, hk, rfl, q, rfl⟩)
        · exact Or.inr (Or.inr (Or.inl ⟨k, hk, rfl, q, mv, rfl⟩))
end MID2
