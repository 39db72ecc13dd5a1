/-! THE PURE HALF, 8: fields, roots, old ones, copies -/
section MID3
variable {ν0 : mSt} {c0 n3 : Nat}
/-- what is done may be told otherwise, where it matters alike -/
theorem Mid.sub {S S' : Nat → Nat → Prop} {σ : nSt} {μ : mSt} {pp num : Nat → Nat → Nat} {nc : Nat} (h : Mid ν0 c0 n3 S σ μ pp num nc) (h1 : ∀ k t, k < 3600 → S' k t → alM ν0 μ k) (h2 : ∀ k nf t, k < 3600 → alM ν0 μ k → nf ≤ 200 → μ.A 7 k = nI nf → t < nf → (S' k t ↔ S k t)) : Mid ν0 c0 n3 S' σ μ pp num nc := by
  obtain ⟨a1, a2, ⟨L, C, U⟩, a3, a4, a5, a6⟩ := h
  refine ⟨a1, a2, ⟨L, fun k hk hl => ?_, U⟩, a3, a4, h1, a6⟩
  obtain ⟨a, nf, nw, st, d1, d2, d3⟩ := C k hk hl
  exact ⟨a, nf, nw, st, d1, d2, d3.congr (fun _ _ _ => rfl) ⟨rfl, rfl, rfl, rfl⟩ (fun _ _ => rfl) (fun t x v ht w => ⟨fun s => w.1 ((h2 k nf t hk hl d3.1.1 d3.2.2.1.1 ht).mp s), fun s => w.2 (fun z => s ((h2 k nf t hk hl d3.1.1 d3.2.2.1.1 ht).mpr z))⟩)⟩
/-- a field is told what it must tell -/
theorem Mid.write {S S' : Nat → Nat → Prop} {σ : nSt} {μ : mSt} {pp num : Nat → Nat → Nat} {nc : Nat} (h : Mid ν0 c0 n3 S σ μ pp num nc) {k a nf nw st t0 : Nat} {r : Int32} (hk : k < 3600) (hl : alM ν0 μ k) (ha : a < 2 ^ 31) (h5 : μ.A 5 k = nI a) (ho : obM (rlS ν0 μ S k) σ.X μ a k nf nw st) (ht : t0 < nf) (hr : relN ν0 μ r (μ.A 10 (st + t0)))
    (hS' : ∀ j t, S' j t ↔ (S j t ∨ (j = k ∧ t = t0))) : Mid ν0 c0 n3 S' (σ.sX (upd σ.X (a + 3 + t0) r)) μ pp num nc := by
  have hgeo := fun {i i' : Nat} => h.geo (i := i) (i' := i')
  have hln := h.ln
  obtain ⟨⟨hg, hsc, kp, tp⟩, ⟨G1, G2⟩, ⟨L, C, U, U2, Wd, O⟩, s1, c1, hS, N⟩ := h
  obtain ⟨z1, z2, z3⟩ := ho.sz
  obtain ⟨i0, a', hi0, hi4, -, e5, r1, r2, r3, r4, r5⟩ := L.at hg hk hl
  have sa := szX_3 σ.X a'
  have ea : a = a' := (nI_eq ha (by omega)).mp (h5.symm.trans e5)
  subst ea
  -- other cells
  have far : ∀ j, j < 3600 → alM ν0 μ j → j ≠ k → ∀ aj, aj < 2 ^ 31 → μ.A 5 j = nI aj → ∀ c, aj ≤ c → c < aj + szX σ.X aj → upd σ.X (a + 3 + t0) r c = σ.X c := fun j hj hlj hne aj haj h5j c c1 c2 => by
    have q := L.apk hg hj hk hlj hl h5j h5 haj ha hne
    rw [pk_un (by omega)]
  have frm : ∀ j, j < 3600 → Fr ν0 j → ∀ aj, aj < 2 ^ 31 → ν0.A 5 j = nI aj → ∀ c, aj ≤ c → c < aj + (3 + lnM ν0 j) → upd σ.X (a + 3 + t0) r c = σ.X c := fun j hj fj aj haj h5j c d1 d2 => by
    obtain ⟨ij, a'', hij, -, e5', t1, t2⟩ := G1 j hj fj
    have gj := hgeo hij hi0
    have : aj = a'' := (nI_eq haj (by omega)).mp (h5j.symm.trans e5')
    subst this
    rw [pk_un (by omega)]
  refine ⟨⟨hg, hsc, kp, tp⟩, ⟨G1, G2⟩, ⟨?_, fun j hj hlj => ?_, fun j hj hlj => ?_, U2, fun j hj fj mj => ?_, O⟩, s1, c1, fun j t hj hs => ?_, N⟩
  · refine L.congr (fun i j hi hj => ?_) (fun _ _ => Iff.rfl) (fun _ _ _ => ⟨rfl, rfl⟩)
    have e1 := L.2.1 i j hi hj
    have rg := L.rng hg hi hj
    have s := szX_3 σ.X (ch σ.X (pp i 0) j)
    by_cases q : num i j = k
    · rw [q] at e1
      have w : a = ch σ.X (pp i 0) j := (nI_eq ha (by omega)).mp (h5.symm.trans e1.2.2.2)
      rw [← w]
      exact ⟨pk_un (by omega), pk_un (by omega)⟩
    · have f := far _ e1.1 e1.2.1 q _ (by omega) e1.2.2.2
      exact ⟨f _ (by omega) (by omega), f _ (by omega) (by omega)⟩
  · by_cases q : j = k
    · subst q
      refine ⟨a, nf, nw, st, ha, h5, ?_⟩
      obtain ⟨b1, ⟨b2, b3⟩, ⟨b4, b5, b6, b7, b8⟩, b9, b10⟩ := ho
      refine ⟨b1, ⟨(pk_un (by omega)).trans b2, (pk_un (by omega)).trans b3⟩, ⟨b4, b5, b6.trans (pk_un (by omega)).symm, b7, b8⟩, fun t htt => ?_, fun t htt => (pk_un (by omega)).trans (b10 t htt)⟩
      by_cases w : t = t0
      · subst w
        have e : (σ.sX (upd σ.X (a + 3 + t) r)).X (a + 3 + t) = r := pk_us
        rw [e]
        exact ⟨fun _ => hr, fun z => absurd ((hS' j t).mpr (Or.inr ⟨rfl, rfl⟩)) z⟩
      · have e : (σ.sX (upd σ.X (a + 3 + t0) r)).X (a + 3 + t) = σ.X (a + 3 + t) := pk_un (by omega)
        rw [e]
        exact ⟨fun s => (b9 t htt).1 (((hS' j t).mp s).resolve_right (fun z => w z.2)), fun s => (b9 t htt).2 (fun z => s ((hS' j t).mpr (Or.inl z)))⟩
    · obtain ⟨aj, nfj, nwj, stj, d1, d2, d3⟩ := C j hj hlj
      obtain ⟨y1, y2, y3⟩ := d3.sz
      exact ⟨aj, nfj, nwj, stj, d1, d2, d3.congr (fun c e1 e2 => far j hj hlj q aj d1 d2 c e1 (by omega)) ⟨rfl, rfl, rfl, rfl⟩ (fun _ _ => rfl) (fun t x v _ w => ⟨fun s => w.1 (((hS' j t).mp s).resolve_right (fun z => q z.1)), fun s => w.2 (fun z => s ((hS' j t).mpr (Or.inl z)))⟩)⟩
  · obtain ⟨aj, nfj, nwj, stj, d1, d2, d3⟩ := U j hj hlj
    obtain ⟨y1, y2, y3⟩ := d3.sz
    rw [hln] at y2
    exact ⟨aj, nfj, nwj, stj, d1, d2, d3.congr (fun c e1 e2 => frm j hj hlj.1 aj d1 ((U2 j hj hlj).2.symm.trans d2) c e1 (by omega)) ⟨rfl, rfl, rfl, rfl⟩ (fun _ _ => rfl) (fun t x v _ w => w)⟩
  · obtain ⟨aj, bj, d1, d2, d3, d4, d5, d6⟩ := Wd j hj fj mj
    exact ⟨aj, bj, d1, d2, d3, d4, d5, (frm j hj fj aj d1 d4 aj (by omega) (by omega)).trans d6⟩
  · rcases (hS' j t).mp hs with w | w
    · exact hS j t hj w
    · rw [w.1]; exact hl
/-- a number's cells, whatever moves -/
theorem Mid.obt {S : Nat → Nat → Prop} {σ : nSt} {μ : mSt} {pp num : Nat → Nat → Nat} {nc : Nat} (hM : Mid ν0 c0 n3 S σ μ pp num nc) {k a nf nw st : Nat} (hk : k < 3600) (ha : a < 2 ^ 31) (hnf : nf ≤ 200) (hnw : nw ≤ 200) (hst : st ≤ 24000) (h7 : ν0.A 7 k = nI nf) (h8 : ν0.A 8 k = nI nw) (h9 : ν0.A 9 k = nI st) (hl : alM ν0 μ k) (h5 : μ.A 5 k = nI a) : obM (rlS ν0 μ S k) σ.X μ a k nf nw st ∧ a + (3 + nf + nw) ≤ σ.N := by
  obtain ⟨a', nf', nw', st', d1, d2, d3⟩ := hM.2.2.1.2.1 k hk hl
  have kp := hM.1.2.2.1
  have e1 : a = a' := (nI_eq ha d1).mp (h5.symm.trans d2)
  have b1 := d3.1
  have e2 : nf = nf' := (nI_eq (by omega) (by omega)).mp (h7.symm.trans ((congrFun kp.2.2.2.1 k).symm.trans d3.2.2.1.1))
  have e6 : nw = nw' := (nI_eq (by omega) (by omega)).mp (h8.symm.trans ((congrFun kp.2.2.2.2.1 k).symm.trans d3.2.2.1.2.1))
  have b8 := d3.2.2.1.2.2.2.2
  have e3 : st = st' := (nI_eq (by omega) (by omega)).mp (h9.symm.trans ((congrFun kp.2.2.2.2.2.1 k).symm.trans d3.2.2.1.2.2.2.1))
  subst e1; subst e2; subst e3; subst e6
  obtain ⟨i, a'', -, -, -, e5, -, -, -, r4, r5⟩ := hM.2.2.1.1.at hM.1.1 hk hl
  have s := szX_3 σ.X a''
  have e4 : a = a'' := (nI_eq ha (by omega)).mp (h5.symm.trans e5)
  subst e4
  rw [d3.sz.1] at r4
  exact ⟨d3, r4⟩
/-- an object's fields, from the t0-th on -/
theorem Mid.flds {S : Nat → Nat → Prop} {k a nf nw st : Nat} (hk : k < 3600) (ha : a < 2 ^ 31) (hnf : nf ≤ 200) (hnw : nw ≤ 200) (hst : st ≤ 24000) (h7 : ν0.A 7 k = nI nf) (h8 : ν0.A 8 k = nI nw) (h9 : ν0.A 9 k = nI st) (hns : ∀ t, ¬ S k t) : ∀ (n t0 : Nat) (σ : nSt) (μ : mSt) (pp num : Nat → Nat → Nat) (nc : Nat), t0 + n = nf → alM ν0 μ k → μ.A 5 k = nI a →
    Mid ν0 c0 n3 (fun j t => S j t ∨ (j = k ∧ t < t0)) σ μ pp num nc → MidF n3 μ pp num nc → ∃ σ' μ' pp' num' nc', FolN c0 n (a + 3 + t0) σ σ' ∧ FndN (2 - c0) n (st + t0) μ μ' ∧ Mid ν0 c0 n3 (fun j t => S j t ∨ (j = k ∧ t < nf)) σ' μ' pp' num' nc' ∧ MidF n3 μ' pp' num' nc' ∧ Ext ν0 μ nc μ' nc' ∧ σ'.R = σ.R
  | 0, t0, σ, μ, pp, num, nc, hte, hl, h5, hM, hF => by
    have : t0 = nf := hte
    subst this
    exact ⟨σ, μ, pp, num, nc, rfl, rfl, hM, hF, Ext.rfl' _ _ _, rfl⟩
  | n + 1, t0, σ, μ, pp, num, nc, hte, hl, h5, hM, hF => by
    obtain ⟨ho, hN⟩ := hM.obt hk ha hnf hnw hst h7 h8 h9 hl h5
    have hrel := (ho.2.2.2.1 t0 (by omega)).2 (fun z => z.elim (hns t0) (fun w => absurd w.2 (Nat.lt_irrefl _)))
    obtain ⟨r, σ1, μ1, pp1, num1, nc1, f1, f2, M1, F1, rN, X1, R1⟩ := hM.fol hF hrel
    have al1 := X1.1 k hk hl
    have h51 : μ1.A 5 k = nI a := al1.2.trans h5
    obtain ⟨ho1, hN1⟩ := M1.obt hk ha hnf hnw hst h7 h8 h9 al1.1 h51
    have k10 : μ1.A 10 = μ.A 10 := f2.kept.2.2.2.2.2.2.1
    have M2 := M1.write (S' := fun j t => S j t ∨ (j = k ∧ t < t0 + 1)) hk al1.1 ha h51 ho1 (t0 := t0) (by omega) (by rw [k10]; exact rN) (fun j t => by
      constructor
      · rintro (z | ⟨z, w⟩)
        · exact Or.inl (Or.inl z)
        · by_cases q : t = t0
          · exact Or.inr ⟨z, q⟩
          · exact Or.inl (Or.inr ⟨z, by omega⟩)
      · rintro ((z | ⟨z, w⟩) | ⟨z, w⟩)
        · exact Or.inl z
        · exact Or.inr ⟨z, by omega⟩
        · exact Or.inr ⟨z, by omega⟩)
    obtain ⟨σ2, μ2, pp2, num2, nc2, g1, g2, M3, F3, X3, R3⟩ := Mid.flds hk ha hnf hnw hst h7 h8 h9 hns n (t0 + 1) _ μ1 pp1 num1 nc1 (by omega) al1.1 h51 M2 F1
    exact ⟨σ2, μ2, pp2, num2, nc2, ⟨r, σ1, by omega, f1, g1⟩, ⟨μ1, f2, g2⟩, M3, F3, X1.trans X3, R3.trans R1⟩
/-- all its fields -/
theorem Mid.fall {S : Nat → Nat → Prop} {k a nf nw st : Nat} (hk : k < 3600) (ha : a < 2 ^ 31) (hnf : nf ≤ 200) (hnw : nw ≤ 200) (hst : st ≤ 24000) (h7 : ν0.A 7 k = nI nf) (h8 : ν0.A 8 k = nI nw) (h9 : ν0.A 9 k = nI st) (hns : ∀ t, ¬ S k t) {σ : nSt} {μ : mSt} {pp num : Nat → Nat → Nat} {nc : Nat} (hl : alM ν0 μ k) (h5 : μ.A 5 k = nI a) (hM : Mid ν0 c0 n3 S σ μ pp num nc) (hF : MidF n3 μ pp num nc) :
    ∃ σ' μ' pp' num' nc', FolN c0 nf (a + 3) σ σ' ∧ FndN (2 - c0) nf st μ μ' ∧ Mid ν0 c0 n3 (fun j t => S j t ∨ (j = k ∧ t < nf)) σ' μ' pp' num' nc' ∧ MidF n3 μ' pp' num' nc' ∧ Ext ν0 μ nc μ' nc' ∧ σ'.R = σ.R :=
  Mid.flds hk ha hnf hnw hst h7 h8 h9 hns nf 0 σ μ pp num nc (Nat.zero_add _) hl h5 (hM.sub (fun k t hk z => z.elim (fun w => hM.2.2.2.2.2.1 k t hk w) (fun w => absurd w.2 (Nat.not_lt_zero _))) (fun k nf' t _ _ _ _ _ => ⟨fun z => z.elim id (fun w => absurd w.2 (Nat.not_lt_zero _)), Or.inl⟩)) hF
/-- the roots, from the i-th on -/
theorem Mid.rts {S : Nat → Nat → Prop} : ∀ (n i : Nat) (σ : nSt) (μ : mSt) (pp num : Nat → Nat → Nat) (nc : Nat), i + n = 16 → Mid ν0 c0 n3 S σ μ pp num nc → MidF n3 μ pp num nc → (∀ j, j < 16 → (j < i → relN ν0 μ (σ.R j) (ν0.A 15 j)) ∧ (i ≤ j → relM ν0 (σ.R j) (ν0.A 15 j))) →
    ∃ σ' μ' pp' num' nc', FolR c0 n i σ σ' ∧ FndR (2 - c0) n i μ μ' ∧ Mid ν0 c0 n3 S σ' μ' pp' num' nc' ∧ MidF n3 μ' pp' num' nc' ∧ Ext ν0 μ nc μ' nc' ∧ ∀ j, j < 16 → relN ν0 μ' (σ'.R j) (ν0.A 15 j)
  | 0, i, σ, μ, pp, num, nc, hte, hM, hF, hR => ⟨σ, μ, pp, num, nc, rfl, rfl, hM, hF, Ext.rfl' _ _ _, fun j hj => (hR j hj).1 (by omega)⟩
  | n + 1, i, σ, μ, pp, num, nc, hte, hM, hF, hR => by
    have k15 : μ.A 15 = ν0.A 15 := hM.1.2.2.1.2.2.2.2.2.2.2.2.2.1
    obtain ⟨r, σ1, μ1, pp1, num1, nc1, f1, f2, M1, F1, rN, X1, R1⟩ := hM.fol hF ((hR i (by omega)).2 (Nat.le_refl _))
    obtain ⟨σ2, μ2, pp2, num2, nc2, g1, g2, M3, F3, X3, R3⟩ := Mid.rts n (i + 1) (σ1.sR (upd σ1.R i r)) μ1 pp1 num1 nc1 (by omega) M1 F1 (fun j hj => by
      show (j < i + 1 → relN ν0 μ1 (upd σ1.R i r j) (ν0.A 15 j)) ∧ (i + 1 ≤ j → relM ν0 (upd σ1.R i r j) (ν0.A 15 j))
      by_cases q : j = i
      · subst q; rw [pk_us]; exact ⟨fun _ => rN, fun z => absurd z (by omega)⟩
      · rw [pk_un q, R1]
        exact ⟨fun z => X1.rel ((hR j hj).1 (by omega)), fun z => (hR j hj).2 (by omega)⟩)
    exact ⟨σ2, μ2, pp2, num2, nc2, ⟨r, σ1, f1, g1⟩, ⟨μ1, by rw [k15]; exact f2, g2⟩, M3, F3, X1.trans X3, R3⟩
/-- the old ones whose fields are done -/
def SO (ν0 : mSt) (i : Nat) : Nat → Nat → Prop := fun j _ => ∃ q, q < i ∧ ν0.A 12 q = nI j
theorem Mid.olds (hD : ∀ k, k < 3600 → ¬ ν0.A 3 k = 0 → stM ν0 k + lnM ν0 k ≤ 24000) : ∀ (n i : Nat) (σ : nSt) (μ : mSt) (pp num : Nat → Nat → Nat) (nc : Nat), i + n = n3 → Mid ν0 c0 n3 (SO ν0 i) σ μ pp num nc → MidF n3 μ pp num nc →
    ∃ σ' μ' pp' num' nc', FolO c0 n (ch σ.X (pp 3 0) i) σ σ' ∧ FndO (2 - c0) n i μ μ' ∧ Mid ν0 c0 n3 (SO ν0 n3) σ' μ' pp' num' nc' ∧ MidF n3 μ' pp' num' nc' ∧ Ext ν0 μ nc μ' nc' ∧ σ'.R = σ.R
  | 0, i, σ, μ, pp, num, nc, hte, hM, hF => by
    have : i = n3 := hte
    subst this
    exact ⟨σ, μ, pp, num, nc, rfl, rfl, hM, hF, Ext.rfl' _ _ _, rfl⟩
  | n + 1, i, σ, μ, pp, num, nc, hte, hM, hF => by
    obtain ⟨N1, N2, N3⟩ := hM.2.2.2.2.2.2
    have L := hM.2.2.1.1
    have kp := hM.1.2.2.1
    have hi3 : i < pp 3 3 := by omega
    have e := L.2.1 3 i (Or.inr rfl) hi3
    have rg := L.rng hM.1.1 (Or.inr rfl) hi3
    have sx := szX_3 σ.X (ch σ.X (pp 3 0) i)
    have fw := (L.1 3 (Or.inr rfl)).2.few
    have g3 := hM.1.1.at (i := 3) (by omega)
    have o12 := (N2 i (by omega)).2
    obtain ⟨k, hkk⟩ : ∃ k, k = num 3 i := ⟨_, rfl⟩
    rw [← hkk] at e o12
    obtain ⟨a, nf, nw, st, d1, d2, d3⟩ := hM.2.2.1.2.1 _ e.1 e.2.1
    have ea : a = ch σ.X (pp 3 0) i := (nI_eq d1 (by omega)).mp (d2.symm.trans e.2.2.2)
    obtain ⟨b1, ⟨b2, b3⟩, ⟨b4, b5, b6, b7, b8⟩, -⟩ := id d3
    have h7 := (congrFun kp.2.2.2.1 _).symm.trans b4
    have h8 := (congrFun kp.2.2.2.2.1 _).symm.trans b5
    have h9 := (congrFun kp.2.2.2.2.2.1 _).symm.trans b7
    have hns : ∀ t, ¬ SO ν0 i k t := fun t ⟨q, hq, hq2⟩ => by
      have w := (N2 q (by omega)).2
      have eq := L.2.1 3 q (Or.inr rfl) (by omega)
      have wk : num 3 q = k := (nI_eq (by omega) (by omega)).mp (w.symm.trans hq2)
      have rq := L.rng hM.1.1 (Or.inr rfl) (show q < pp 3 3 by omega)
      have sq := szX_3 σ.X (ch σ.X (pp 3 0) q)
      rw [wk] at eq
      have wc : ch σ.X (pp 3 0) q = ch σ.X (pp 3 0) i := (nI_eq (by omega) (by omega)).mp (eq.2.2.2.symm.trans e.2.2.2)
      have := ch_inj σ.X (pp 3 0) wc
      omega
    have hdt := hD k e.1 (by rw [← kp.2.2.1]; have := (N2 i (by omega)).1.1; rw [← hkk] at this; rw [kp.2.2.1]; exact this)
    rw [← lnM_congr kp.2.2.2.1 kp.2.2.2.2.1, ← stM_congr kp.2.2.2.2.2.1, d3.sz.2.1, d3.sz.2.2] at hdt
    obtain ⟨σ1, μ1, pp1, num1, nc1, f1, f2, M1, F1, X1, R1⟩ := Mid.fall e.1 d1 b1.1 b1.2 b8 h7 h8 h9 hns e.2.1 d2 hM hF
    have al1 := X1.1 k e.1 e.2.1
    have h51 : μ1.A 5 k = nI a := al1.2.trans d2
    obtain ⟨ho1, hN1⟩ := M1.obt e.1 d1 b1.1 b1.2 b8 h7 h8 h9 al1.1 h51
    obtain ⟨N1', N2', N3'⟩ := M1.2.2.2.2.2.2
    have kp1 := M1.1.2.2.1
    have L1 := M1.2.2.1.1
    have lt1 : ∀ q, q < n3 → num1 3 q < 3600 := fun q hq => (L1.2.1 3 q (Or.inr rfl) (by omega)).1
    have M2 : Mid ν0 c0 n3 (SO ν0 (i + 1)) σ1 μ1 pp1 num1 nc1 := M1.sub (fun j t hj ⟨q, hq, hq2⟩ => by
        have w := N2' q (by omega)
        have l := lt1 q (by omega)
        have : num1 3 q = j := (nI_eq (by omega) (by omega)).mp (w.2.symm.trans hq2)
        rw [← this]; exact Or.inl w.1) (fun j nf' t hj hl hnf' h7' ht => by
        constructor
        · rintro ⟨q, hq, hq2⟩
          by_cases w : q = i
          · subst w
            have : k = j := (nI_eq (by omega) (by omega)).mp (o12.symm.trans hq2)
            subst this
            have : nf' = nf := (nI_eq (by omega) (by omega)).mp (h7'.symm.trans ((congrFun kp1.2.2.2.1 k).trans h7))
            exact Or.inr ⟨rfl, by omega⟩
          · exact Or.inl ⟨q, by omega, hq2⟩
        · rintro (⟨q, hq, hq2⟩ | ⟨w, -⟩)
          · exact ⟨q, by omega, hq2⟩
          · exact ⟨i, by omega, by rw [w]; exact o12⟩)
    have e1 := L1.2.1 3 i (Or.inr rfl) (by omega)
    have wk1 : num1 3 i = k := (nI_eq (by omega) (by omega)).mp ((N2' i (by omega)).2.symm.trans o12)
    rw [wk1] at e1
    have rg1 := L1.rng M1.1.1 (Or.inr rfl) (show i < pp1 3 3 by omega)
    have sx1 := szX_3 σ1.X (ch σ1.X (pp1 3 0) i)
    have ea1 : a = ch σ1.X (pp1 3 0) i := (nI_eq d1 (by omega)).mp (h51.symm.trans e1.2.2.2)
    have nx : ch σ1.X (pp1 3 0) (i + 1) = a + (3 + nf + nw) := by
      show ch σ1.X (pp1 3 0) i + szX σ1.X (ch σ1.X (pp1 3 0) i) = _
      rw [← ea1, ho1.sz.1]
    obtain ⟨σ2, μ2, pp2, num2, nc2, g1, g2, M3, F3, X3, R3⟩ := Mid.olds hD n (i + 1) σ1 μ1 pp1 num1 nc1 (by omega) M2 F1
    rw [nx] at g1
    rw [← ea]
    rw [← ea, d3.sz.1] at rg
    exact ⟨σ2, μ2, pp2, num2, nc2, ⟨nf, nw, σ1, b2, b1.1, b1.2, by omega, f1, ho1.2.1.1, ho1.2.1.2, g1⟩, ⟨k, nf, st, μ1, by omega, by rw [kp.2.2.2.2.2.2.2.2.1]; exact o12, e.1, b4, b7, by omega, f2, g2⟩, M3, F3, X1.trans X3, R3.trans R1⟩
/-- the copies whose fields are done -/
def SC (ν0 μ : mSt) (i : Nat) : Nat → Nat → Prop := fun j _ => Od ν0 j ∨ ∃ q, q < i ∧ μ.A 13 q = nI j
theorem Mid.toC {σ : nSt} {μ : mSt} {pp num : Nat → Nat → Nat} {nc : Nat} (hM : Mid ν0 c0 n3 (SO ν0 n3) σ μ pp num nc) : Mid ν0 c0 n3 (SC ν0 μ 0) σ μ pp num nc := by
  obtain ⟨N1, N2, N3⟩ := hM.2.2.2.2.2.2
  have L := hM.2.2.1.1
  refine hM.sub (fun k t hk z => z.elim Or.inl (fun ⟨q, hq, _⟩ => absurd hq (Nat.not_lt_zero _))) (fun k nf t hk _ _ _ _ => ⟨fun z => ?_, fun ⟨q, hq, hq2⟩ => ?_⟩)
  · rcases z with z | ⟨q, hq, -⟩
    · obtain ⟨j, hj, e⟩ := N3 k hk z
      exact ⟨j, hj, by rw [← e]; exact (N2 j hj).2⟩
    · exact absurd hq (Nat.not_lt_zero _)
  · have w := N2 q hq
    have l := (L.2.1 3 q (Or.inr rfl) (by omega)).1
    have : num 3 q = k := (nI_eq (by omega) (by omega)).mp (w.2.symm.trans hq2)
    rw [← this]; exact Or.inl w.1
theorem Mid.cps (hD : ∀ k, k < 3600 → ¬ ν0.A 3 k = 0 → stM ν0 k + lnM ν0 k ≤ 24000) : ∀ (m i : Nat) (σ : nSt) (μ : mSt) (pp num : Nat → Nat → Nat) (nc : Nat), i + m = 512 → i ≤ nc → Mid ν0 c0 n3 (SC ν0 μ i) σ μ pp num nc → MidF n3 μ pp num nc →
    ∃ n σ' μ' pp' num' nc', FolC c0 n i σ σ' ∧ FndC (2 - c0) n i μ μ' ∧ Mid ν0 c0 n3 (SC ν0 μ' nc') σ' μ' pp' num' nc' ∧ MidF n3 μ' pp' num' nc' ∧ Ext ν0 μ nc μ' nc' ∧ σ'.R = σ.R
  | m, i, σ, μ, pp, num, nc, hte, hin, hM, hF => by
    have hnc : nc ≤ 512 := by have := hM.2.2.2.1.2.1; omega
    obtain ⟨c1, c2, c3, c4, c5⟩ := hM.2.2.2.2.1
    by_cases q : i = nc
    · subst q
      exact ⟨0, σ, μ, pp, num, i, ⟨hnc, c1, rfl⟩, ⟨by omega, c2, rfl⟩, hM, hF, Ext.rfl' _ _ _, rfl⟩
    · match m, hte with
      | 0, hte => omega
      | m + 1, hte =>
        have kp := hM.1.2.2.1
        obtain ⟨k, hk, k13, kf, km, kc⟩ := c3 i (by omega)
        have hl : alM ν0 μ k := Or.inr ⟨kf, km⟩
        obtain ⟨a, nf, nw, st, d1, d2, d3⟩ := hM.2.2.1.2.1 k hk hl
        obtain ⟨b1, ⟨b2, b3⟩, ⟨b4, b5, b6, b7, b8⟩, -⟩ := id d3
        have h7 := (congrFun kp.2.2.2.1 _).symm.trans b4
        have h8 := (congrFun kp.2.2.2.2.1 _).symm.trans b5
        have h9 := (congrFun kp.2.2.2.2.2.1 _).symm.trans b7
        have hns : ∀ t, ¬ SC ν0 μ i k t := fun t z => by
          rcases z with z | ⟨q', hq, hq2⟩
          · exact kf.2 z.2
          · have := c4 q' i (by omega) (by omega) (hq2.trans k13.symm); omega
        have hdt := hD k hk kf.1
        rw [← lnM_congr kp.2.2.2.1 kp.2.2.2.2.1, ← stM_congr kp.2.2.2.2.2.1, d3.sz.2.1, d3.sz.2.2] at hdt
        obtain ⟨-, hN⟩ := hM.obt hk d1 b1.1 b1.2 b8 h7 h8 h9 hl d2
        obtain ⟨σ1, μ1, pp1, num1, nc1, f1, f2, M1, F1, X1, R1⟩ := Mid.fall hk d1 b1.1 b1.2 b8 h7 h8 h9 hns hl d2 hM hF
        have kp1 := M1.1.2.2.1
        have c3' := M1.2.2.2.2.1.2.2.1
        have x13 : ∀ q, q < i + 1 → μ1.A 13 q = μ.A 13 q := fun q hq => X1.2.2 q (by omega)
        have hi1 : i + 1 ≤ nc1 := by have := X1.2.1; omega
        have M2 : Mid ν0 c0 n3 (SC ν0 μ1 (i + 1)) σ1 μ1 pp1 num1 nc1 := M1.sub (fun j t hj z => by
            rcases z with z | ⟨q', hq, hq2⟩
            · exact Or.inl z
            · obtain ⟨j', u1, u2, u3, u4, -⟩ := c3' q' (by omega)
              have : j' = j := (nI_eq (by omega) (by omega)).mp (u2.symm.trans hq2)
              rw [← this]; exact Or.inr ⟨u3, u4⟩) (fun j nf' t hj hl' hnf' h7' ht => by
            constructor
            · rintro (z | ⟨q', hq, hq2⟩)
              · exact Or.inl (Or.inl z)
              · rw [x13 q' hq] at hq2
                by_cases w : q' = i
                · subst w
                  have : k = j := (nI_eq (by omega) (by omega)).mp (k13.symm.trans hq2)
                  subst this
                  have : nf' = nf := (nI_eq (by omega) (by omega)).mp (h7'.symm.trans ((congrFun kp1.2.2.2.1 k).trans h7))
                  exact Or.inr ⟨rfl, by omega⟩
                · exact Or.inl (Or.inr ⟨q', by omega, hq2⟩)
            · rintro ((z | ⟨q', hq, hq2⟩) | ⟨w, -⟩)
              · exact Or.inl z
              · exact Or.inr ⟨q', by omega, by rw [x13 q' (by omega)]; exact hq2⟩
              · exact Or.inr ⟨i, by omega, by rw [x13 i (by omega), w]; exact k13⟩)
        obtain ⟨n, σ2, μ2, pp2, num2, nc2, g1, g2, M3, F3, X3, R3⟩ := Mid.cps hD m (i + 1) σ1 μ1 pp1 num1 nc1 (by omega) hi1 M2 F1
        exact ⟨n + 1, σ2, μ2, pp2, num2, nc2, ⟨nc, a, nf, σ1, c1, by omega, hnc, kc.trans d2, b2, b1.1, by omega, f1, g1⟩, ⟨nc, k, nf, st, μ1, c2, by omega, by omega, k13, hk, b4, b7, by omega, f2, g2⟩, M3, F3, X1.trans X3, R3.trans R1⟩
end MID3
