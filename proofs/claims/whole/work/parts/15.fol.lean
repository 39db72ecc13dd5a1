/-! A COLLECTION'S STEPS, as evidence: what each of the class's methods does to its state -/
def cpH (σ : nSt) (i k nf nw f us nc : Nat) : Prop :=
  σ.X k = nI nf ∧ σ.X (k + 1) = nI nw ∧ nf ≤ 200 ∧ nw ≤ 200 ∧ k + (3 + nf + nw) ≤ σ.N ∧ σ.P i 0 = nI f ∧ σ.P i 2 = nI us ∧ f + us + (3 + nf + nw) ≤ σ.N ∧ nc < 512 ∧ σ.F 0 = nI nc
/-- what 'follow' does -/
def Fol (σ : nSt) (c0 : Nat) (x r : Int32) (u : nSt) : Prop :=
  (isY σ c0 x = 0 ∧ r = x ∧ u = σ) ∨
  (∃ k, x = nI k ∧ k < σ.N ∧ ¬ isY σ c0 x = 0 ∧ σ.X k < 0 ∧ r = -σ.X k ∧ u = σ) ∨
  (∃ k nf nw f us nc, x = nI k ∧ ¬ isY σ c0 x = 0 ∧ ¬ σ.X k < 0 ∧ cpH σ (2 - c0) k nf nw f us nc ∧ σ.X (k + 2) < σ.F 1 ∧ ¬ σ.P (2 - c0) 1 - σ.P (2 - c0) 2 < nI (3 + nf + nw) ∧ r = nI (f + us) ∧ u = cpR σ (2 - c0) k (3 + nf + nw) (f + us) nc) ∨
  (∃ k nf nw f us nc, x = nI k ∧ ¬ isY σ c0 x = 0 ∧ ¬ σ.X k < 0 ∧ cpH σ 3 k nf nw f us nc ∧ (¬ σ.X (k + 2) < σ.F 1 ∨ σ.P (2 - c0) 1 - σ.P (2 - c0) 2 < nI (3 + nf + nw)) ∧ r = nI (f + us) ∧ u = cpO σ k (3 + nf + nw) (f + us) nc)
/-- the row in use is c0 -/
def rwI (σ : nSt) (c0 : Nat) : Prop := (σ.F 2 = 0 ∧ c0 = 0) ∨ (σ.F 2 = 1 ∧ c0 = 1)
theorem rwI.j {σ : nSt} {c0 : Nat} (h : rwI σ c0) : (σ.F 2 = 0 ∧ 2 - c0 = 2) ∨ (σ.F 2 = 1 ∧ 2 - c0 = 1) := by
  rcases h with ⟨h, rfl⟩ | ⟨h, rfl⟩
  · exact Or.inl ⟨h, rfl⟩
  · exact Or.inr ⟨h, rfl⟩
theorem Fol.kept {σ : nSt} {c0 : Nat} {x r : Int32} {u : nSt} (h : Fol σ c0 x r u) : u.F 2 = σ.F 2 ∧ u.N = σ.N ∧ u.hx = σ.hx ∧ u.R = σ.R ∧ u.F 1 = σ.F 1 ∧ u.F 3 = σ.F 3 := by
  rcases h with ⟨-, -, rfl⟩ | ⟨k, -, -, -, -, -, rfl⟩ | ⟨k, nf, nw, f, us, nc, -, -, -, -, -, -, -, rfl⟩ | ⟨k, nf, nw, f, us, nc, -, -, -, -, -, -, rfl⟩ <;> exact ⟨rfl, rfl, rfl, rfl, rfl, rfl⟩
/-- n cells from k on, each told what it tells behind the collection -/
def FolN (c0 : Nat) : Nat → Nat → nSt → nSt → Prop
  | 0, _, σ, u => u = σ
  | n + 1, k, σ, u => ∃ (r : Int32) (v : nSt), k < σ.N ∧ Fol σ c0 (σ.X k) r v ∧ FolN c0 n (k + 1) (v.sX (upd v.X k r)) u
theorem FolN.kept {c0 : Nat} : ∀ {n k : Nat} {σ u : nSt}, FolN c0 n k σ u → u.F 2 = σ.F 2 ∧ u.N = σ.N ∧ u.hx = σ.hx ∧ u.R = σ.R ∧ u.F 1 = σ.F 1 ∧ u.F 3 = σ.F 3
  | 0, _, _, _, h => by cases h; exact ⟨rfl, rfl, rfl, rfl, rfl, rfl⟩
  | n + 1, k, σ, u, ⟨r, v, _, h1, h2⟩ => by
    have a := h1.kept
    have b := FolN.kept h2
    exact ⟨b.1.trans a.1, b.2.1.trans a.2.1, b.2.2.1.trans a.2.2.1, b.2.2.2.1.trans a.2.2.2.1, b.2.2.2.2.1.trans a.2.2.2.2.1, b.2.2.2.2.2.trans a.2.2.2.2.2⟩
/-- the roots from i on, n of them -/
def FolR (c0 : Nat) : Nat → Nat → nSt → nSt → Prop
  | 0, _, σ, u => u = σ
  | n + 1, i, σ, u => ∃ (r : Int32) (v : nSt), Fol σ c0 (σ.R i) r v ∧ FolR c0 n (i + 1) (v.sR (upd v.R i r)) u
theorem FolR.kept {c0 : Nat} : ∀ {n k : Nat} {σ u : nSt}, FolR c0 n k σ u → u.F 2 = σ.F 2 ∧ u.N = σ.N ∧ u.hx = σ.hx ∧ u.F 1 = σ.F 1 ∧ u.F 3 = σ.F 3
  | 0, _, _, _, h => by cases h; exact ⟨rfl, rfl, rfl, rfl, rfl⟩
  | n + 1, k, σ, u, ⟨r, v, h1, h2⟩ => by
    have a := h1.kept
    have b := FolR.kept h2
    exact ⟨b.1.trans a.1, b.2.1.trans a.2.1, b.2.2.1.trans a.2.2.1, b.2.2.2.1.trans a.2.2.2.2.1, b.2.2.2.2.trans a.2.2.2.2.2⟩
/-- n old objects from k on -/
def FolO (c0 : Nat) : Nat → Nat → nSt → nSt → Prop
  | 0, _, σ, u => u = σ
  | n + 1, k, σ, u => ∃ (nf nw : Nat) (v : nSt), σ.X k = nI nf ∧ nf ≤ 200 ∧ nw ≤ 200 ∧ k + (3 + nf + nw) ≤ σ.N ∧ FolN c0 nf (k + 3) σ v ∧ v.X k = nI nf ∧ v.X (k + 1) = nI nw ∧ FolO c0 n (k + (3 + nf + nw)) v u
theorem FolO.kept {c0 : Nat} : ∀ {n k : Nat} {σ u : nSt}, FolO c0 n k σ u → u.F 2 = σ.F 2 ∧ u.N = σ.N ∧ u.hx = σ.hx ∧ u.R = σ.R ∧ u.F 1 = σ.F 1 ∧ u.F 3 = σ.F 3
  | 0, _, _, _, h => by cases h; exact ⟨rfl, rfl, rfl, rfl, rfl, rfl⟩
  | n + 1, k, σ, u, ⟨nf, nw, v, _, _, _, _, h1, _, _, h2⟩ => by
    have a := h1.kept
    have b := FolO.kept h2
    exact ⟨b.1.trans a.1, b.2.1.trans a.2.1, b.2.2.1.trans a.2.2.1, b.2.2.2.1.trans a.2.2.2.1, b.2.2.2.2.1.trans a.2.2.2.2.1, b.2.2.2.2.2.trans a.2.2.2.2.2⟩
/-- the copies from i on; n are still to come -/
def FolC (c0 : Nat) : Nat → Nat → nSt → nSt → Prop
  | 0, i, σ, u => i ≤ 512 ∧ σ.F 0 = nI i ∧ u = σ
  | n + 1, i, σ, u => ∃ (nc k nf : Nat) (v : nSt), σ.F 0 = nI nc ∧ i < nc ∧ nc ≤ 512 ∧ σ.C i = nI k ∧ σ.X k = nI nf ∧ nf ≤ 200 ∧ k + 3 + nf ≤ σ.N ∧ FolN c0 nf (k + 3) σ v ∧ FolC c0 n (i + 1) v u
theorem FolC.kept {c0 : Nat} : ∀ {n k : Nat} {σ u : nSt}, FolC c0 n k σ u → u.F 2 = σ.F 2 ∧ u.N = σ.N ∧ u.hx = σ.hx ∧ u.R = σ.R ∧ u.F 1 = σ.F 1 ∧ u.F 3 = σ.F 3
  | 0, _, _, _, ⟨_, _, h⟩ => by cases h; exact ⟨rfl, rfl, rfl, rfl, rfl, rfl⟩
  | n + 1, k, σ, u, ⟨nc, k', nf, v, _, _, _, _, _, _, _, h1, h2⟩ => by
    have a := h1.kept
    have b := FolC.kept h2
    exact ⟨b.1.trans a.1, b.2.1.trans a.2.1, b.2.2.1.trans a.2.2.1, b.2.2.2.1.trans a.2.2.2.1, b.2.2.2.2.1.trans a.2.2.2.2.1, b.2.2.2.2.2.trans a.2.2.2.2.2⟩
theorem rwI.of {σ u : nSt} {c0 : Nat} (h : rwI σ c0) (e : u.F 2 = σ.F 2) : rwI u c0 := by
  rcases h with ⟨h, rfl⟩ | ⟨h, rfl⟩
  · exact Or.inl ⟨e.trans h, rfl⟩
  · exact Or.inr ⟨e.trans h, rfl⟩
