/-! THE PURE HALF, 2: what a pair of states that go together gives; small changes -/
section MS
variable {μ μ' : mSt}
theorem sM_ne {k j : Nat} {v : Int32} (h : j ≠ k) : (μ.sM k v).M j = μ.M j := pk_un h
theorem sM_eq {k : Nat} {v : Int32} : (μ.sM k v).M k = v := pk_us
theorem sA_ne {k j : Nat} {f : Nat → Int32} (h : j ≠ k) : (μ.sA k f).A j = μ.A j := if_neg h
theorem sA_eq {k : Nat} {f : Nat → Int32} : (μ.sA k f).A k = f := if_pos rfl
theorem relM_congr (h3 : μ'.A 3 = μ.A 3) (h5 : μ'.A 5 = μ.A 5) : relM μ' = relM μ := by
  funext x v; simp only [relM, h3, h5]
theorem th_congr (h3 : μ'.A 3 = μ.A 3) : th μ' = th μ := by
  funext k; simp only [th, h3]
theorem lnM_congr (h7 : μ'.A 7 = μ.A 7) (h8 : μ'.A 8 = μ.A 8) : lnM μ' = lnM μ := by
  funext k; simp only [lnM, h7, h8]
theorem stM_congr (h9 : μ'.A 9 = μ.A 9) : stM μ' = stM μ := by
  funext k; simp only [stM, h9]
theorem tdN_congr (h3 : μ'.A 3 = μ.A 3) (h7 : μ'.A 7 = μ.A 7) (h8 : μ'.A 8 = μ.A 8) (t : Nat) : tdN μ' t = tdN μ t := by
  rw [tdN_sm, tdN_sm]
  exact smF_congr t (fun j _ => by simp only [tdf, h3, lnM_congr h7 h8])
theorem ctM_congr (h3 : μ'.A 3 = μ.A 3) (h4 : μ'.A 4 = μ.A 4) (a : Int32) : ctM μ' a = ctM μ a :=
  smF_congr 3600 (fun j _ => by simp only [ctf, h3, h4])
theorem szM_congr (h3 : μ'.A 3 = μ.A 3) (h4 : μ'.A 4 = μ.A 4) (h7 : μ'.A 7 = μ.A 7) (h8 : μ'.A 8 = μ.A 8) (a : Int32) : szM μ' a = szM μ a :=
  smF_congr 3600 (fun j _ => by simp only [szf, h3, h4, lnM_congr h7 h8])
theorem refI_congr (h : refI μ) (hM : μ'.M 3 = μ.M 3) (h3 : μ'.A 3 = μ.A 3) (h7 : μ'.A 7 = μ.A 7) (h8 : μ'.A 8 = μ.A 8) (h9 : μ'.A 9 = μ.A 9) : refI μ' := by
  simp only [refI]
  rw [hM, h3, tdN_congr h3 h7 h8, lnM_congr h7 h8, stM_congr h9]
  exact h
end MS
section SIM
variable {σ σ' : nSt} {μ μ' : mSt} {pp num : Nat → Nat → Nat} {c0 : Nat}
theorem SimP.inv (h : SimP σ μ pp num c0) : nInv σ pp := by
  obtain ⟨⟨⟨g1, g2, g3, g4, g5, g6⟩, ⟨u0, u1, u2, u3⟩, -⟩, hs, -, -, hL, -⟩ := h
  exact ⟨hs.1, fun i hi => (hL.1 i hi).2, by omega, by omega, by omega, by omega, by omega, by omega⟩
theorem SimP.rw (h : SimP σ μ pp num c0) : rwI σ c0 := by
  obtain ⟨hc, hF, -⟩ := h.2.1.2.2
  rcases (show c0 = 0 ∨ c0 = 1 by omega) with rfl | rfl
  · exact Or.inl ⟨hF, rfl⟩
  · exact Or.inr ⟨hF, rfl⟩
/-- an object's number, or none -/
theorem SimP.obj (h : SimP σ μ pp num c0) (x : Int32) : (isOb σ.X pp x = 1 ∧ ∃ i j k a nf nw st, i < 4 ∧ j < pp i 3 ∧ num i j = k ∧ a = ch σ.X (pp i 0) j ∧ x = nI a ∧ 1 ≤ a ∧ a < 10241 ∧ k < 3600 ∧ th μ k ∧ μ.A 4 k = nI i ∧ μ.A 5 k = nI a ∧ obM (fun _ => relM μ) σ.X μ a k nf nw st ∧ objR μ x (nI k)) ∨ (isOb σ.X pp x = 0 ∧ objR μ x (-1)) := by
  have hg := h.1
  have hL := h.2.2.2.2.1
  have hC := h.2.2.2.2.2.1
  by_cases c : ∃ i, i < 4 ∧ ∃ t, t < pp i 3 ∧ x = nI (ch σ.X (pp i 0) t)
  · left
    refine ⟨isOb_1 c, ?_⟩
    obtain ⟨i, hi, j, hj, rfl⟩ := c
    have e := hL.2.1 i j hi hj
    have r := hL.rng hg hi hj
    have s := szX_3 σ.X (ch σ.X (pp i 0) j)
    obtain ⟨a, nf, nw, st, ha, e5, ho⟩ := hC _ e.1 e.2.1
    have w : a = ch σ.X (pp i 0) j := (nI_eq ha (by omega)).mp (e5.symm.trans e.2.2.2)
    subst w
    refine ⟨i, j, _, _, nf, nw, st, hi, hj, rfl, rfl, rfl, by omega, by omega, e.1, e.2.1, e.2.2.1, e5, ho, Or.inl ⟨_, e.1, e.2.1, e5, fun q hq => ?_, rfl⟩⟩
    by_cases t3 : μ.A 3 q = 0
    · exact Or.inl t3
    · exact Or.inr fun t5 => by
        have := hL.uniq hg (k := q) (k' := num i j) (by omega) e.1 t3 e.2.1 (t5.trans e5.symm)
        omega
  · right
    refine ⟨isOb_0 c, Or.inr ⟨fun q hq => ?_, rfl⟩⟩
    by_cases t3 : μ.A 3 q = 0
    · exact Or.inl t3
    · refine Or.inr fun t5 => c ?_
      obtain ⟨i, j, hi, hj, rfl⟩ := hL.2.2 q hq t3
      exact ⟨i, hi, j, hj, t5.symm.trans (hL.2.1 i j hi hj).2.2.2⟩
theorem SimP.mod (h : SimP σ μ pp num c0) (hA : ∀ j, j ≠ 10 → j ≠ 15 → μ'.A j = μ.A j) (hM : ∀ j, j ≠ 0 → j ≠ 2 → μ'.M j = μ.M j) (hM2 : μ'.M 2 = σ'.F 1) (hP : σ'.P = σ.P) (hN : σ'.N = σ.N) (hF : ∀ j, j ≠ 1 → σ'.F j = σ.F j)
    (hX : ∀ i j, i < 4 → j < pp i 3 → σ'.X (ch σ.X (pp i 0) j) = σ.X (ch σ.X (pp i 0) j) ∧ σ'.X (ch σ.X (pp i 0) j + 1) = σ.X (ch σ.X (pp i 0) j + 1)) (hC : CtN (th μ) (fun _ _ => relM μ) σ'.X μ') (hR : ∀ i, i < 16 → relM μ (σ'.R i) (μ'.A 15 i)) : SimP σ' μ' pp num c0 := by
  obtain ⟨h1, ⟨h2, h3, h4, h5, h6, h7, h8, h9, h10⟩, h11, h12, h13, -, -, h14, h15, h16, h17⟩ := h
  have a3 := hA 3 (by omega) (by omega)
  have a5 := hA 5 (by omega) (by omega)
  have a7 := hA 7 (by omega) (by omega)
  have a8 := hA 8 (by omega) (by omega)
  have a4 := hA 4 (by omega) (by omega)
  refine ⟨by rw [hN]; exact h1, ⟨fun i hi j hj => by rw [hP]; exact h2 i hi j hj, fun i hi => by rw [hA 0 (by omega) (by omega), hA 1 (by omega) (by omega)]; exact h3 i hi, h4, (hF 2 (by omega)).trans h5, (hM 1 (by omega) (by omega)).trans h6, hM2, ?_, ?_, ?_⟩, fun i hi => by rw [hA 2 (by omega) (by omega)]; exact h11 i hi, h12, ?_, ?_, ?_, fun i hi => ?_, refI_congr h15 (hM 3 (by omega) (by omega)) a3 a7 a8 (hA 9 (by omega) (by omega)), (hM 4 (by omega) (by omega)).trans h16, fun j hj => by rw [hA 12 (by omega) (by omega)]; exact h17 j hj⟩
  · rw [hM 6 (by omega) (by omega), hF 3 (by omega)]; exact h8
  · rw [hM 7 (by omega) (by omega), hF 4 (by omega)]; exact h9
  · rw [hM 8 (by omega) (by omega), hF 5 (by omega)]; exact h10
  · exact h13.congr hX (fun k _ => by rw [th_congr a3]) (fun k _ _ => by rw [a4, a5]; exact ⟨rfl, rfl⟩)
  · rw [th_congr a3, relM_congr a3 a5]; exact hC
  · rw [relM_congr a3 a5]; exact hR
  · rw [ctM_congr a3 a4, szM_congr a3 a4 a7 a8]; exact h14 i hi
/-- 'thrown' and the limit alone -/
theorem SimP.mod0 (h : SimP σ μ pp num c0) (hA : ∀ j, μ'.A j = μ.A j) (hM : ∀ j, j ≠ 0 → j ≠ 2 → μ'.M j = μ.M j) (hM2 : μ'.M 2 = σ'.F 1) (hP : σ'.P = σ.P) (hN : σ'.N = σ.N) (hF : ∀ j, j ≠ 1 → σ'.F j = σ.F j) (hX : σ'.X = σ.X) (hR : σ'.R = σ.R) : SimP σ' μ' pp num c0 := by
  refine h.mod (fun j _ _ => hA j) hM hM2 hP hN hF (fun i j _ _ => by rw [hX]; exact ⟨rfl, rfl⟩) (fun k hk hl => ?_) (fun i hi => by rw [hR, hA]; exact h.2.2.2.2.2.2.1 i hi)
  obtain ⟨a, nf, nw, st, b1, b2, b3⟩ := h.2.2.2.2.2.1 k hk hl
  exact ⟨a, nf, nw, st, b1, by rw [hA]; exact b2, b3.congr (fun c _ _ => by rw [hX]) (by rw [hA, hA, hA, hA]; exact ⟨rfl, rfl, rfl, rfl⟩) (fun t _ => by rw [hA]) (fun _ _ _ _ w => w)⟩
theorem SimP.m2 (h : SimP σ μ pp num c0) : μ.M 2 = σ.F 1 := h.2.1.2.2.2.2.2.1
theorem SimP.t0 (h : SimP σ μ pp num c0) (v : Int32) : Sim σ (μ.sM 0 v) := ⟨pp, num, c0, h.mod0 (fun _ => rfl) (fun j h0 _ => sM_ne h0) h.m2 rfl rfl (fun _ _ => rfl) rfl rfl⟩
/-- one cell of an object, one place of the data -/
theorem SimP.wr (h : SimP σ μ pp num c0) {k a nf nw st e : Nat} {x v : Int32} (hk : k < 3600) (ht : th μ k) (ha : a < 2 ^ 31) (h5 : μ.A 5 k = nI a) (ho : obM (fun _ => relM μ) σ.X μ a k nf nw st) (he : e < nf + nw) (r1 : e < nf → relM μ x v) (r2 : nf ≤ e → x = v)
    (hA : ∀ j, j ≠ 10 → μ'.A j = μ.A j) (h10 : μ'.A 10 = upd (μ.A 10) (st + e) v) (hM : ∀ j, j ≠ 0 → μ'.M j = μ.M j) (hP : σ'.P = σ.P) (hN : σ'.N = σ.N) (hF : σ'.F = σ.F) (hX : σ'.X = upd σ.X (a + 3 + e) x) (hR : σ'.R = σ.R) : SimP σ' μ' pp num c0 := by
  have hg := h.1
  have hL := h.2.2.2.2.1
  have hC := h.2.2.2.2.2.1
  have hI := h.2.2.2.2.2.2.2.2.1
  obtain ⟨s1, s2, s3⟩ := ho.sz
  have far : ∀ k', k' < 3600 → th μ k' → k' ≠ k → ∀ a', a' < 2 ^ 31 → μ.A 5 k' = nI a' → ∀ c, a' ≤ c → c < a' + szX σ.X a' → σ'.X c = σ.X c := by
    intro k' hk' ht' hne a' ha' h5' c c1 c2
    have q := hL.apk hg hk' hk ht' ht h5' h5 ha' ha hne
    rw [hX, pk_un (by omega)]
  refine h.mod (fun j q _ => hA j q) (fun j q _ => hM j q) (by rw [hM 2 (by omega), hF]; exact h.m2) hP hN (fun j _ => by rw [hF]) (fun i j hi hj => ?_) (fun k' hk' ht' => ?_) (fun i hi => by rw [hR, hA 15 (by omega)]; exact h.2.2.2.2.2.2.1 i hi)
  · have e1 := hL.2.1 i j hi hj
    have r := hL.rng hg hi hj
    have s := szX_3 σ.X (ch σ.X (pp i 0) j)
    by_cases q : num i j = k
    · rw [q] at e1
      have w : a = ch σ.X (pp i 0) j := (nI_eq ha (by omega)).mp (h5.symm.trans e1.2.2.2)
      rw [← w, hX, pk_un (by omega), pk_un (by omega)]
      exact ⟨rfl, rfl⟩
    · have f := far _ e1.1 e1.2.1 q _ (by omega) e1.2.2.2
      exact ⟨f _ (by omega) (by omega), f _ (by omega) (by omega)⟩
  · by_cases q : k' = k
    · subst q
      refine ⟨a, nf, nw, st, ha, by rw [hA 5 (by omega)]; exact h5, ?_⟩
      obtain ⟨b1, ⟨b2, b3⟩, ⟨b4, b5, b6, b7, b8⟩, b9, b10⟩ := ho
      rw [hX]
      refine ⟨b1, ⟨by rw [pk_un (by omega)]; exact b2, by rw [pk_un (by omega)]; exact b3⟩, ⟨by rw [hA 7 (by omega)]; exact b4, by rw [hA 8 (by omega)]; exact b5, by rw [hA 6 (by omega), pk_un (by omega)]; exact b6, by rw [hA 9 (by omega)]; exact b7, b8⟩, fun t htt => ?_, fun t htt => ?_⟩
      · rw [h10]
        by_cases w : t = e
        · subst w; rw [pk_us, pk_us]; exact r1 htt
        · rw [pk_un (by omega), pk_un (by omega)]; exact b9 t htt
      · rw [h10]
        by_cases w : nf + t = e
        · rw [show a + 3 + nf + t = a + 3 + e by omega, show st + nf + t = st + e by omega, pk_us, pk_us]; exact r2 (by omega)
        · rw [pk_un (by omega), pk_un (by omega)]; exact b10 t htt
    · obtain ⟨a', nf', nw', st', d1, d2, d3⟩ := hC k' hk' ht'
      obtain ⟨s1', s2', s3'⟩ := d3.sz
      refine ⟨a', nf', nw', st', d1, by rw [hA 5 (by omega)]; exact d2, d3.congr (fun c c1 c2 => far k' hk' ht' q a' d1 d2 c c1 (by omega)) ⟨by rw [hA 7 (by omega)], by rw [hA 8 (by omega)], by rw [hA 6 (by omega)], by rw [hA 9 (by omega)]⟩ (fun t htt => ?_) (fun _ _ _ _ w => w)⟩
      have ap := hI.2.2 k' k hk' hk ht' ht q
      rw [h10, pk_un (by omega)]
/-- the data's bounds -/
theorem SimP.few (h : SimP σ μ pp num c0) : tdN μ 3600 ≤ 9800 := by
  have hL := h.2.2.2.2.1
  have hS := h.2.2.2.2.2.2.2.1
  obtain ⟨-, ⟨u0, u1, u2, u3⟩, m0, m1, m2, m3⟩ := h.1
  have q : smF (tdf μ) 3600 ≤ smF (fun k => szf μ (nI 0) k + szf μ (nI 1) k + szf μ (nI 2) k + szf μ (nI 3) k) 3600 := smF_le 3600 (fun k hk => by
    by_cases t3 : μ.A 3 k = 0
    · simp only [tdf, if_pos t3]; omega
    · obtain ⟨i, a, hi, -, h4, -⟩ := hL.at h.1 hk t3
      have e : szf μ (nI i) k = 3 + lnM μ k := if_pos ⟨t3, h4⟩
      simp only [tdf, if_neg t3]
      rcases (show i = 0 ∨ i = 1 ∨ i = 2 ∨ i = 3 by omega) with rfl | rfl | rfl | rfl <;> omega)
  rw [smF_add, smF_add, smF_add] at q
  have z0 : smF (szf μ (nI 0)) 3600 = pp 0 2 := (hS 0 (by omega)).2
  have z1 : smF (szf μ (nI 1)) 3600 = pp 1 2 := (hS 1 (by omega)).2
  have z2 : smF (szf μ (nI 2)) 3600 = pp 2 2 := (hS 2 (by omega)).2
  have z3 : smF (szf μ (nI 3)) 3600 = pp 3 2 := (hS 3 (by omega)).2
  rw [tdN_sm]
  have : pp 3 2 ≤ 8192 := by omega
  rcases (show c0 = 0 ∨ c0 = 1 by have := h.2.1.2.2.1; omega) with e | e
  · subst e; have := h.2.2.2.1.1; simp only [Nat.sub_zero] at this; omega
  · subst e; have := h.2.2.2.1.1; simp only [show 2 - 1 = 1 from rfl] at this; omega
theorem relM.ok {x v : Int32} (h : relM μ x v) : toOk v := by
  rcases h with ⟨-, h⟩ | ⟨k, hk, -, h, -⟩
  · exact Or.inl h
  · exact Or.inr ⟨k, hk, h⟩
theorem relM.to {x v : Int32} (h : relM μ x v) : toM μ v = x := by
  rcases h with ⟨rfl, rfl⟩ | ⟨k, hk, -, rfl, rfl⟩
  · simp [toM]
  · have : ¬ nI (k + 1) = 0 := nI_ne0 (by omega) (by omega)
    simp only [toM]
    rw [if_neg this, nI_pred, nI_clamp (by omega)]
end SIM
/-- a pair of calls: what the class does, and that the reference does the same -/
def StepOK (yN : MethodName) (cN : ByteArray) (nN : Nat) (rmN : Room) (yM : MethodName) (cM : ByteArray) (nM : Nat) (As : List Value) (σ : nSt) (μ : mSt) (cds : List (String × Int32)) : Prop :=
  ∃ (post : Int32 → nSt → Prop) (thr : String → Prop) (rM : Int32) (νM : mSt),
    (∀ (l : Launch), l.stackTraces = false → ∀ (D : va_G) (cI cP : ClassId) (a : Nat → Nat), gv_M l yN (Cond.code yN cN nN (some .int) :: gW) rmN D gC (nrT cI cP) (nrW cI cP a) σ (.ref (a 0) :: As) post thr) ∧
    (∀ (l : Launch) (D : va_G) (cI cZ : ClassId) (b : Nat → Nat), gx_Mi l yM (Cond.code yM cM nM (some .int) :: gW) (gR 3) D gC (mdT cI cZ) (mdW cI cZ b) μ (.ref (b 0) :: As) (fun r u => r = rM ∧ u = νM)) ∧
    (∀ r u, post r u → νM.M 0 = 0 ∧ r = rM ∧ Sim u νM) ∧ (∀ E, thr E → ∃ c, (E, c) ∈ cds ∧ νM.M 0 = c ∧ Sim σ νM)
theorem gx_Mi.mono {S : Type} {l : Launch} {y : MethodName} {ws : List Cond} {rm : Room} {D : va_G} {cl : List vw_C} {tys : List (ClassId × FieldType)} {wf : S → va_W} {σ : S} {av : List Value} {post post' : Int32 → S → Prop} (h : gx_Mi l y ws rm D cl tys wf σ av post) (hq : ∀ r u, post r u → post' r u) : gx_Mi l y ws rm D cl tys wf σ av post' := by
  intro sz p e a1 a2 a3 s m args below a4 a5 hP a6
  obtain ⟨n, o, b1, b2, b3, ⟨⟨r, u, c1, c2, c3⟩, hF⟩, L⟩ := h sz p e a1 a2 a3 s m args below a4 a5 hP a6
  exact ⟨n, o, b1, b2, b3, ⟨⟨r, u, c1, hq r u c2, c3⟩, hF⟩, L⟩
theorem isW_z {x lo hi : Int32} (h : isW x lo hi = 0) : ¬ (¬ x < lo ∧ ¬ hi < x) := fun ⟨a, b⟩ => by simp [isW, a, b] at h
theorem isW_y {x lo hi : Int32} (h : ¬ isW x lo hi = 0) : ¬ x < lo ∧ ¬ hi < x := ⟨fun q => h (by simp [isW, q]), fun q => h (by simp [isW, q])⟩
theorem isR_z {x : Int32} (h : isR x = 0) : ¬ (¬ x < 0 ∧ ¬ 16 ≤ x) := fun ⟨a, b⟩ => by simp [isR, a, b] at h
theorem isR_y {x : Int32} (h : ¬ isR x = 0) : ¬ x < 0 ∧ ¬ 16 ≤ x := ⟨fun q => h (by simp [isR, q]), fun q => h (by simp [isR, q])⟩
section STEPS
variable {σ : nSt} {μ : mSt}
theorem st_limit (h : Sim σ μ) (x : Int32) : StepOK yNr_limit cNr_limit 3 (gRc 8 1 6) yMd_limit cMd_limit 3 [.int x] σ μ [(xIA, 1)] := by
  obtain ⟨pp, num, c0, hs⟩ := h
  by_cases c : isW x 0 15 = 0
  · exact ⟨_, _, 0, μ.sM 0 1, fun l hfl D cI cP a => qNr_limit l hfl D cI cP a σ x, fun l D cI cZ b => qMd_limit_no l D cI cZ b μ x (isW_z c), fun r u hp => absurd c hp.1, fun E hE => ⟨1, by rw [hE.1]; exact List.mem_singleton.mpr rfl, rfl, hs.t0 1⟩⟩
  · refine ⟨_, _, μ.M 2, (μ.sM 0 0).sM 2 x, fun l hfl D cI cP a => qNr_limit l hfl D cI cP a σ x, fun l D cI cZ b => qMd_limit_ok l D cI cZ b μ x (isW_y c), fun r u hp => ⟨rfl, by rw [hp.2.1]; exact hs.m2.symm, ?_⟩, fun E hE => absurd hE.2 c⟩
    rw [hp.2.2]
    exact ⟨pp, num, c0, hs.mod0 (fun _ => rfl) (fun j h0 h2 => (sM_ne h2).trans (sM_ne h0)) rfl rfl rfl (fun j hj => pk_un hj) rfl rfl⟩
theorem st_rooted (h : Sim σ μ) (x : Int32) : StepOK yNr_rooted cNr_rooted 2 (gRc 8 1 6) yMd_rooted cMd_rooted 2 [.int x] σ μ [(xNS, 1)] := by
  obtain ⟨pp, num, c0, hs⟩ := h
  by_cases c : isR x = 0
  · exact ⟨_, _, 0, μ.sM 0 1, fun l hfl D cI cP a => qNr_rooted l hfl D cI cP a σ x, fun l D cI cZ b => qMd_rooted_no l D cI cZ b μ x (isR_z c), fun r u hp => absurd c hp.1, fun E hE => ⟨1, by rw [hE.1]; exact List.mem_singleton.mpr rfl, rfl, hs.t0 1⟩⟩
  · obtain ⟨n, hxn, hn⟩ := isR_ne c
    have hrel := hs.2.2.2.2.2.2.1 n hn
    have e : x.toNatClampNeg = n := by rw [hxn, nI_clamp (by omega)]
    exact ⟨_, _, _, μ.sM 0 0, fun l hfl D cI cP a => qNr_rooted l hfl D cI cP a σ x, fun l D cI cZ b => qMd_rooted_ok l D cI cZ b μ x (by rw [e]; exact hrel.ok) (isR_y c), fun r u hp => ⟨rfl, by rw [hp.2.1, e]; exact (relM.to (μ := μ.sM 0 0) hrel).symm, by rw [hp.2.2]; exact hs.t0 0⟩, fun E hE => absurd hE.2 c⟩
theorem isNO_z {X : Nat → Int32} {pp : Nat → Nat → Nat} {b : Int32} (h : isNO X pp b = 0) : ¬ b = 0 ∧ isOb X pp b = 0 := by
  by_cases c : b = 0
  · simp [isNO, c] at h
  · refine ⟨c, Classical.byContradiction fun q => ?_⟩
    simp [isNO, c, q] at h
theorem isNO_y {X : Nat → Int32} {pp : Nat → Nat → Nat} {b : Int32} (h : ¬ isNO X pp b = 0) : b = 0 ∨ (¬ b = 0 ∧ ¬ isOb X pp b = 0) := by
  by_cases c : b = 0
  · exact Or.inl c
  · exact Or.inr ⟨c, fun q => h (by simp [isNO, c, q])⟩
/-- the number that b becomes -/
theorem SimP.tgt {pp num : Nat → Nat → Nat} {c0 : Nat} (hs : SimP σ μ pp num c0) (b : Int32) : ∃ ko, (¬ b = 0 → objR μ b ko) ∧ (isNO σ.X pp b = 0 → ¬ b = 0 ∧ ko = -1) ∧ (¬ isNO σ.X pp b = 0 → (b = 0 ∨ ¬ ko < 0) ∧ relM μ b (if b = 0 then 0 else ko + 1)) := by
  rcases hs.obj b with ⟨h1, i, j, k, a, nf, nw, st, -, -, -, -, hb, ha1, ha2, hk, ht, -, h5, -, hO⟩ | ⟨h1, hO⟩
  · refine ⟨nI k, fun _ => hO, fun z => ?_, fun _ => ⟨Or.inr (nI_pos (by omega)), ?_⟩⟩
    · have := isNO_z z; rw [h1] at this; exact absurd this.2 (by decide)
    · have b0 : ¬ b = 0 := by rw [hb]; exact nI_ne0 (by omega) (by omega)
      rw [if_neg b0, nI_1]
      exact Or.inr ⟨k, hk, ht, rfl, hb.trans h5.symm⟩
  · refine ⟨-1, fun _ => hO, fun z => ⟨(isNO_z z).1, rfl⟩, fun z => ?_⟩
    rcases isNO_y z with w | w
    · exact ⟨Or.inl w, Or.inl ⟨w, if_pos w⟩⟩
    · exact absurd h1 w.2
theorem st_root (h : Sim σ μ) (x b : Int32) : StepOK yNr_root cNr_root 4 (gRc 8 1 6) yMd_root cMd_root 5 [.int x, .int b] σ μ [(xNS, 1)] := by
  obtain ⟨pp, num, c0, hs⟩ := h
  obtain ⟨ko, k1, k2, k3⟩ := hs.tgt b
  by_cases c : isR x = 0 ∨ isNO σ.X pp b = 0
  · refine ⟨_, _, 0, μ.sM 0 1, fun l hfl D cI cP a => qNr_root l hfl D cI cP a σ pp x b hs.inv, fun l D cI cZ b' => qMd_root_no l D cI cZ b' μ x b ko k1 (fun z => ?_), fun r u hp => (c.elim (fun w => absurd w hp.1) (fun w => absurd w hp.2.1)), fun E hE => ⟨1, by rw [hE.1]; exact List.mem_singleton.mpr rfl, rfl, hs.t0 1⟩⟩
    rcases c with w | w
    · exact isR_z w ⟨z.1, z.2.1⟩
    · have q := k2 w
      rcases z.2.2 with u | u
      · exact q.1 u
      · rw [q.2] at u; exact u (by decide)
  · have c1 : ¬ isR x = 0 := fun w => c (Or.inl w)
    have c2 : ¬ isNO σ.X pp b = 0 := fun w => c (Or.inr w)
    obtain ⟨n, hxn, hn⟩ := isR_ne c1
    have hrel := hs.2.2.2.2.2.2.1 n hn
    have e : x.toNatClampNeg = n := by rw [hxn, nI_clamp (by omega)]
    have q := k3 c2
    refine ⟨_, _, _, _, fun l hfl D cI cP a => qNr_root l hfl D cI cP a σ pp x b hs.inv, fun l D cI cZ b' => qMd_root_ok l D cI cZ b' μ x b ko k1 (by rw [e]; exact hrel.ok) ⟨(isR_y c1).1, (isR_y c1).2, q.1⟩, fun r u hp => ⟨rfl, ?_, ?_⟩, fun E hE => (hE.2.elim (fun w => absurd w c1) (fun w => absurd w c2))⟩
    · rw [hp.2.2.1, e]; exact (relM.to (μ := (μ.sM 0 0).sA 15 (upd (μ.A 15) n (if b = 0 then 0 else ko + 1))) hrel).symm
    · rw [hp.2.2.2, e]
      refine ⟨pp, num, c0, hs.mod (fun j _ h15 => sA_ne h15) (fun j h0 _ => sM_ne h0) hs.m2 rfl rfl (fun _ _ => rfl) (fun _ _ _ _ => ⟨rfl, rfl⟩) (fun k hk hl => ?_) (fun i hi => ?_)⟩
      · obtain ⟨a, nf, nw, st, b1, b2, b3⟩ := hs.2.2.2.2.2.1 k hk hl
        exact ⟨a, nf, nw, st, b1, b2, b3.congr (fun c _ _ => rfl) ⟨rfl, rfl, rfl, rfl⟩ (fun t _ => rfl) (fun _ _ _ _ w => w)⟩
      · show relM μ (upd σ.R n b i) (upd (μ.A 15) n (if b = 0 then 0 else ko + 1) i)
        by_cases w : i = n
        · subst w; rw [pk_us, pk_us]; exact q.2
        · rw [pk_un w, pk_un w]; exact hs.2.2.2.2.2.2.1 i hi
end STEPS
