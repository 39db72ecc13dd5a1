/-! BEFORE THE PUBLIC METHODS -/
theorem gx_same {D : va_G} {cl : List vw_C} {tys : List (ClassId × FieldType)} {s : State} {c1 c2 : ClassId} {i j : Nat} (hK : va_K D cl tys s) (h1 : tys[i]? = some (c1, .int)) (h2 : tys[j]? = some (c2, .int)) : c2 = c1 := by
  have e1 : s.vm.findClass _ = some c1 := (hK.2 i _ h1).2
  have e2 : s.vm.findClass _ = some c2 := (hK.2 j _ h2).2
  exact Option.some.inj (e2.symm.trans e1)
theorem rIA0 : decode rxIA 0 = .ok (.aload_n 0, 1) := by decide +kernel
theorem rIA1 : decode rxIA 1 = .ok (.aload_n 1, 1) := by decide +kernel
theorem rIA2 : decode rxIA 2 = .ok (.invokespecial 7, 3) := by decide +kernel
theorem rIA5 : decode rxIA 5 = .ok (.return_, 1) := by decide +kernel
theorem rNS0 : decode rxNS 0 = .ok (.aload_n 0, 1) := by decide +kernel
theorem rNS1 : decode rxNS 1 = .ok (.aload_n 1, 1) := by decide +kernel
theorem rNS2 : decode rxNS 2 = .ok (.invokespecial 13, 3) := by decide +kernel
theorem rNS5 : decode rxNS 5 = .ok (.return_, 1) := by decide +kernel
theorem rIS0 : decode rxIS 0 = .ok (.aload_n 0, 1) := by decide +kernel
theorem rIS1 : decode rxIS 1 = .ok (.aload_n 1, 1) := by decide +kernel
theorem rIS2 : decode rxIS 2 = .ok (.invokespecial 7, 3) := by decide +kernel
theorem rIS5 : decode rxIS 5 = .ok (.return_, 1) := by decide +kernel
/-- within lo and hi: a small number -/
theorem isW_ne {x lo hi : Int32} {a b : Nat} (h : ¬ isW x lo hi = 0) (hlo : lo = nI a) (hhi : hi = nI b) (hb : b < 2 ^ 31) (hab : a ≤ b) : ∃ n, x = nI n ∧ a ≤ n ∧ n ≤ b := by
  simp only [isW] at h
  by_cases c1 : x < lo
  · rw [if_pos c1] at h; exact absurd rfl h
  · rw [if_neg c1] at h
    by_cases c2 : hi < x
    · rw [if_pos c2] at h; exact absurd rfl h
    · subst hlo; subst hhi
      have h0 : ¬ x < 0 := fun q => c1 (Int32.lt_of_lt_of_le q (nI_pos' (by omega)))
      obtain ⟨j, hj, rfl⟩ := nI_of h0
      exact ⟨j, rfl, Nat.not_lt.mp fun q => c1 (nI_lt q (by omega)), Nat.not_lt.mp fun q => c2 (nI_lt q hj)⟩
theorem isR_ne {x : Int32} (h : ¬ isR x = 0) : ∃ n, x = nI n ∧ n < 16 := by
  simp only [isR] at h
  by_cases c1 : x < 0
  · rw [if_pos c1] at h; exact absurd rfl h
  · rw [if_neg c1] at h
    by_cases c2 : 16 ≤ x
    · rw [if_pos c2] at h; exact absurd rfl h
    · obtain ⟨j, hj, rfl⟩ := nI_of c1
      exact ⟨j, rfl, Nat.not_le.mp fun q => c2 (show nI 16 ≤ nI j from nI_le q hj)⟩
/-- an object's address, its counts -/
theorem isOb_ad {σ : nSt} {pp : Nat → Nat → Nat} {x : Int32} (h : nInv σ pp) (hx : ¬ isOb σ.X pp x = 0) : ∃ k nf nw, x = nI k ∧ 1 ≤ k ∧ k + (3 + nf + nw) ≤ σ.N ∧ nf ≤ 200 ∧ nw ≤ 200 ∧ σ.X k = nI nf ∧ σ.X (k + 1) = nI nw := by
  obtain ⟨i, hi, t, ht, rfl⟩ := isOb_ne hx
  obtain ⟨nf, nw, h1, h2, h3, h4, h5⟩ := (h.2.1 i hi).sz ht
  have hin := (h.2.1 i hi).in ht
  have hen := h.end hi
  exact ⟨_, nf, nw, rfl, by omega, by omega, h1, h2, h3, h4⟩
theorem fCl_ne {σ : nSt} {pp : Nat → Nat → Nat} {x f : Int32} (h : nInv σ pp) (hx : ¬ fCl σ.X pp x f = 0) : ∃ k nf nw j, x = nI k ∧ 1 ≤ k ∧ k + (3 + nf + nw) ≤ σ.N ∧ nf ≤ 200 ∧ nw ≤ 200 ∧ σ.X k = nI nf ∧ f = nI j ∧ j < nf ∧ fCl σ.X pp x f = nI (k + 3 + j) := by
  by_cases c0 : isOb σ.X pp x = 0
  · simp [fCl, c0] at hx
  · obtain ⟨k, nf, nw, rfl, h1, h2, h3, h4, h5, h6⟩ := isOb_ad h c0
    have hN := h.2.2.2.2.2.2.2
    have hk : (nI k).toNatClampNeg = k := nI_clamp (by omega)
    simp only [fCl, if_neg c0, hk] at hx ⊢
    by_cases c1 : f < 0
    · rw [if_pos c1] at hx; exact absurd rfl hx
    · rw [if_neg c1] at hx ⊢
      by_cases c2 : f < σ.X k
      · obtain ⟨j, hj, rfl⟩ := nI_of c1
        rw [h5] at c2
        refine ⟨k, nf, nw, j, rfl, h1, h2, h3, h4, h5, rfl, (nI_ltI hj (by omega)).mp c2, ?_⟩
        rw [if_pos (by rw [h5]; exact c2), show (3 : Int32) = nI 3 from rfl, nI_add, nI_add]
      · rw [if_neg c2] at hx; exact absurd rfl hx
theorem wCl_ne {σ : nSt} {pp : Nat → Nat → Nat} {x f : Int32} (h : nInv σ pp) (hx : ¬ wCl σ.X pp x f = 0) : ∃ k nf nw j, x = nI k ∧ 1 ≤ k ∧ k + (3 + nf + nw) ≤ σ.N ∧ nf ≤ 200 ∧ nw ≤ 200 ∧ σ.X k = nI nf ∧ σ.X (k + 1) = nI nw ∧ f = nI j ∧ j < nw ∧ wCl σ.X pp x f = nI (k + 3 + nf + j) := by
  by_cases c0 : isOb σ.X pp x = 0
  · simp [wCl, c0] at hx
  · obtain ⟨k, nf, nw, rfl, h1, h2, h3, h4, h5, h6⟩ := isOb_ad h c0
    have hN := h.2.2.2.2.2.2.2
    have hk : (nI k).toNatClampNeg = k := nI_clamp (by omega)
    simp only [wCl, if_neg c0, hk] at hx ⊢
    by_cases c1 : f < 0
    · rw [if_pos c1] at hx; exact absurd rfl hx
    · rw [if_neg c1] at hx ⊢
      by_cases c2 : f < σ.X (k + 1)
      · obtain ⟨j, hj, rfl⟩ := nI_of c1
        rw [h6] at c2
        refine ⟨k, nf, nw, j, rfl, h1, h2, h3, h4, h5, h6, rfl, (nI_ltI hj (by omega)).mp c2, ?_⟩
        rw [if_pos (by rw [h6]; exact c2), h5, show (3 : Int32) = nI 3 from rfl, nI_add, nI_add, nI_add]
      · rw [if_neg c2] at hx; exact absurd rfl hx
/-- all cells, as the class adds them -/
def allC (σ : nSt) : Int32 := 0 + σ.P 0 1 + σ.P 1 1 + σ.P 2 1 + σ.P 3 1
/-- the cells grow, if they must -/
def grow (σ u : nSt) : Prop := (allC σ < nI σ.N ∧ u = σ) ∨ (¬ allC σ < nI σ.N ∧ ∃ q, u = σ.sN 10241 q (fun _ => 0))
section FILLN
variable {l : Launch} {D : va_G} {cI cP : ClassId} {a : Nat → Nat} {σ : nSt}
theorem nr_fillR (v : Int32) : gx_Mv l yAr_fill2 (Cond.code yAr_fill2 cAr_fill2 4 none :: gW) (gR 0) D gC (nrT cI cP) (nrW cI cP a) σ [.ref (a 6), .int v] (fun u => u = σ.sR (fillF σ.R 0 16 v)) :=
  gx_Mv.lift (wr := (nrW cI cP a σ).eraseIdx 6) (qAr_fill2 l D cI [(cP, .object "NurseryRow$Part")] (a 6) 16 σ.R v (by decide)) (fun f => σ.sR f) [6] [0, 1, 2, 3, 4, 5, 7, 8] [0, 1, 2, 3, 4, 5, 8, 6, 7] rfl rfl rfl rfl (by decide) rfl (fun _ => rfl) (fun u h => by rw [h])
theorem nr_fillX (v : Int32) (lo hi : Nat) (h1 : lo ≤ hi) (h2 : hi ≤ σ.N) (hN : σ.N < 2 ^ 31) : gx_Mv l yAr_fill4 (Cond.code yAr_fill4 cAr_fill4 5 none :: gW) (gR 1) D gC (nrT cI cP) (nrW cI cP a) σ [.ref σ.hx, .int (nI lo), .int (nI hi), .int v] (fun u => u = σ.sX (fillF σ.X lo hi v)) :=
  gx_Mv.lift (wr := (nrW cI cP a σ).eraseIdx 8) (qAr_fill4 l D cI [(cP, .object "NurseryRow$Part")] σ.hx σ.N σ.X v lo hi h1 h2 hN) (fun f => σ.sX f) [8] [0, 1, 2, 3, 4, 5, 6, 7] [0, 1, 2, 3, 4, 5, 6, 7, 8] rfl rfl rfl rfl (by decide) rfl (fun _ => rfl) (fun u h => by rw [h])
end FILLN
theorem tsw (x : Int32) (n : Nat) (hn : n < 2 ^ 31) : (x.toInt < 0 ∨ (n : Int) < x.toInt) ∨ ∃ j, j ≤ n ∧ x = nI j := by
  by_cases h : x < 0
  · left; left
    have := Int32.lt_iff_toInt_lt.mp h
    simpa using this
  · obtain ⟨j, hj, rfl⟩ := nI_of h
    by_cases q : j ≤ n
    · exact Or.inr ⟨j, q, rfl⟩
    · left; right
      rw [nI_toInt hj]
      omega
theorem pOf_at {σ : nSt} {pp : Nat → Nat → Nat} (h : nInv σ pp) {i t : Nat} (hi : i < 4) (ht : t < pp i 3) : pOf σ (nI (ch σ.X (pp i 0) t)) = nI i := by
  have hl := (h.2.1 i hi).in ht
  have he := h.end hi
  have hs : 3 ≤ szX σ.X (ch σ.X (pp i 0) t) := by simp only [szX]; omega
  rcases pOf_spec h (nI (ch σ.X (pp i 0) t)) with ⟨i2, k, hi2, e1, e2, h1, h2⟩ | ⟨-, hno⟩
  · have he2 := h.end hi2
    have e3 : ch σ.X (pp i 0) t = k := (nI_eq (by omega) (by omega)).mp e2
    have := h.one hi2 h1 h2 hi ht e3.symm
    subst this
    exact e1
  · exact absurd rfl (hno i hi _ hl.1 (by omega))
/-- what 'about' tells -/
def abA (σ : nSt) (x : Int32) (j : Nat) : Int32 := match j with
  | 0 => σ.X (x.toNatClampNeg + 2)
  | 1 => σ.X x.toNatClampNeg
  | 2 => σ.X (x.toNatClampNeg + 1)
  | _ => pOf σ x
/-- what 'count' tells -/
def cnA (σ : nSt) (c0 j : Nat) : Int32 := match j with
  | 0 => σ.P 0 3
  | 1 => σ.P (1 + c0) 3
  | 2 => σ.P 3 3
  | 3 => σ.P 0 2
  | 4 => σ.P (1 + c0) 2
  | 5 => σ.P 3 2
  | 6 => σ.F 3
  | 7 => σ.F 4
  | 8 => σ.F 5
  | _ => σ.F 2
/-- a new object at b -/
def mkS (σ : nSt) (x y : Int32) (sz b : Nat) : nSt :=
  (((σ.sP 0 (σ.P 0 0, σ.P 0 1, σ.P 0 2 + nI sz, σ.P 0 3 + 1)).sX (fillF σ.X b (b + sz) 0)).sX (upd (fillF σ.X b (b + sz) 0) b x)).sX (upd (upd (fillF σ.X b (b + sz) 0) b x) (b + 1) y)
def laid (σ : nSt) (x y z : Int32) : nSt := (((σ.sP 0 (1, x, 0, 0)).sP 1 (1 + x, y, 0, 0)).sP 2 (1 + x + y, y, 0, 0)).sP 3 (1 + x + 2 * y, z, 0, 0)
/-- a collection's evidence -/
def ColE (σ : nSt) (c0 : Nat) (r : Int32) (u : nSt) : Prop :=
  ∃ (n3 k0 nC : Nat) (v1 v2 v3 : nSt), n3 < 2 ^ 31 ∧ σ.P 3 3 = nI n3 ∧ v1.P 3 0 = nI k0 ∧ FolR c0 16 0 (σ.sF 0 0) v1 ∧ FolO c0 n3 k0 v1 v2 ∧ FolC c0 nC 0 v2 v3 ∧ r = v3.F 0 ∧
    u = (((v3.sP 0 (v3.P 0 0, v3.P 0 1, 0, 0)).sP (1 + c0) (v3.P (1 + c0) 0, v3.P (1 + c0) 1, 0, 0)).sF 2 (1 - v3.F 2)).sF 3 (v3.F 3 + 1)
