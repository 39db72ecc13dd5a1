/-! THE REFERENCE: its state, its small methods. Ints: 0 thrown, 1 row, 2 limited, 3 filled, 4 oldMany, 5 copies, 6 collections, 7 toRows, 8 toOld. Arrays: 0 firsts, 1 sizes, 2 tops, 3 there, 4 areas, 5 addresses, 6 ages, 7 fields, 8 words, 9 starts, 10 data, 11 spare, 12 olds, 13 copied, 14 moved, 15 roots -/
def mSt : Type := (Nat → Int32) × (Nat → Nat → Int32)
def mSt.M (μ : mSt) : Nat → Int32 := μ.1
def mSt.A (μ : mSt) : Nat → Nat → Int32 := μ.2
def mSt.sM (μ : mSt) (k : Nat) (v : Int32) : mSt := (upd μ.M k v, μ.A)
def mSt.sA (μ : mSt) (k : Nat) (f : Nat → Int32) : mSt := (μ.M, fun j => if j = k then f else μ.A j)
def mdT (cI cZ : ClassId) : List (ClassId × FieldType) := [(cI, .int), (cZ, .boolean)]
def mdW (cI cZ : ClassId) (b : Nat → Nat) (μ : mSt) : va_W :=
  [(b 0, .inr (2, [.int (μ.M 0), .ref (b 1), .ref (b 2), .ref (b 3), .int (μ.M 1), .int (μ.M 2), .ref (b 4), .ref (b 5), .ref (b 6), .ref (b 7), .ref (b 8), .ref (b 9), .ref (b 10), .int (μ.M 3), .ref (b 11), .ref (b 12), .int (μ.M 4), .ref (b 13), .int (μ.M 5), .ref (b 14), .ref (b 15), .ref (b 16), .int (μ.M 6), .int (μ.M 7), .int (μ.M 8)])),
   (b 1, .inl (cI, 4, .inl (μ.A 0))),
   (b 2, .inl (cI, 4, .inl (μ.A 1))),
   (b 3, .inl (cI, 4, .inl (μ.A 2))),
   (b 4, .inl (cZ, 3600, .inl (μ.A 3))),
   (b 5, .inl (cI, 3600, .inl (μ.A 4))),
   (b 6, .inl (cI, 3600, .inl (μ.A 5))),
   (b 7, .inl (cI, 3600, .inl (μ.A 6))),
   (b 8, .inl (cI, 3600, .inl (μ.A 7))),
   (b 9, .inl (cI, 3600, .inl (μ.A 8))),
   (b 10, .inl (cI, 3600, .inl (μ.A 9))),
   (b 11, .inl (cI, 24000, .inl (μ.A 10))),
   (b 12, .inl (cI, 24000, .inl (μ.A 11))),
   (b 13, .inl (cI, 3600, .inl (μ.A 12))),
   (b 14, .inl (cI, 3600, .inl (μ.A 13))),
   (b 15, .inl (cZ, 3600, .inl (μ.A 14))),
   (b 16, .inl (cI, 16, .inl (μ.A 15)))]
section ZI
variable {S : Type} {D : va_G} {cl : List vw_C} {tys : List (ClassId × FieldType)}
variable {p : Program} {l : Launch} {e : Env} {R : Room} {s : State} {m : MethodId} {args : Array Value} {below : List Frame} {meth : Method} {c : Code} {H : Heap} {locs : List Loc} {cells slots : Nat}
variable {cc : ByteArray} {nL : Nat} {ws : List Cond} {y : MethodName} {A : Nat → Prop} {pc : Nat} {ls : Array Slot}
theorem gx_ziret {wf : S → va_W} {post : Int32 → S → Prop} (E : gx_E p s m args meth c cc (some .boolean) nL ws y) {r : Int32} (hn : narrow .boolean (.int r) = .int r) (hK : va_K D cl tys s) {u : S} (hP : va_P D cl (wf u) H) (hD : va_D A (wf u)) (hS : va_S A s.heap H locs) (hq : post r u) (hdg : decode cc pc = .ok (.ireturn, 1)) :
    W p l e R s m args below meth c H locs cells slots (MQ below (va_Qi post (gx_B D cl tys wf A) A) args s cells slots A) (F0 m pc ls [.int r]) :=
  W.zret (v := r) E.1 E.2.1 E.2.2.1 hn (fun t ht hW => ⟨⟨r, u, rfl, hq, by rw [ht]; exact hP, va_K.moved hW.alike hK, hD⟩, hS.F ht⟩) hS.2.2 hdg (hlocks := E.2.2.2.2.2.2.1)
end ZI
theorem mdA_0 (cI cZ : ClassId) (b : Nat → Nat) (μ : mSt) (f : Nat → Int32) : (mdW cI cZ b μ).set 1 (b 1, .inl (cI, 4, .inl f)) = mdW cI cZ b (μ.sA 0 f) := rfl
theorem mdA_1 (cI cZ : ClassId) (b : Nat → Nat) (μ : mSt) (f : Nat → Int32) : (mdW cI cZ b μ).set 2 (b 2, .inl (cI, 4, .inl f)) = mdW cI cZ b (μ.sA 1 f) := rfl
theorem mdA_2 (cI cZ : ClassId) (b : Nat → Nat) (μ : mSt) (f : Nat → Int32) : (mdW cI cZ b μ).set 3 (b 3, .inl (cI, 4, .inl f)) = mdW cI cZ b (μ.sA 2 f) := rfl
theorem mdA_3 (cI cZ : ClassId) (b : Nat → Nat) (μ : mSt) (f : Nat → Int32) : (mdW cI cZ b μ).set 4 (b 4, .inl (cZ, 3600, .inl f)) = mdW cI cZ b (μ.sA 3 f) := rfl
theorem mdA_4 (cI cZ : ClassId) (b : Nat → Nat) (μ : mSt) (f : Nat → Int32) : (mdW cI cZ b μ).set 5 (b 5, .inl (cI, 3600, .inl f)) = mdW cI cZ b (μ.sA 4 f) := rfl
theorem mdA_5 (cI cZ : ClassId) (b : Nat → Nat) (μ : mSt) (f : Nat → Int32) : (mdW cI cZ b μ).set 6 (b 6, .inl (cI, 3600, .inl f)) = mdW cI cZ b (μ.sA 5 f) := rfl
theorem mdA_6 (cI cZ : ClassId) (b : Nat → Nat) (μ : mSt) (f : Nat → Int32) : (mdW cI cZ b μ).set 7 (b 7, .inl (cI, 3600, .inl f)) = mdW cI cZ b (μ.sA 6 f) := rfl
theorem mdA_7 (cI cZ : ClassId) (b : Nat → Nat) (μ : mSt) (f : Nat → Int32) : (mdW cI cZ b μ).set 8 (b 8, .inl (cI, 3600, .inl f)) = mdW cI cZ b (μ.sA 7 f) := rfl
theorem mdA_8 (cI cZ : ClassId) (b : Nat → Nat) (μ : mSt) (f : Nat → Int32) : (mdW cI cZ b μ).set 9 (b 9, .inl (cI, 3600, .inl f)) = mdW cI cZ b (μ.sA 8 f) := rfl
theorem mdA_9 (cI cZ : ClassId) (b : Nat → Nat) (μ : mSt) (f : Nat → Int32) : (mdW cI cZ b μ).set 10 (b 10, .inl (cI, 3600, .inl f)) = mdW cI cZ b (μ.sA 9 f) := rfl
theorem mdA_10 (cI cZ : ClassId) (b : Nat → Nat) (μ : mSt) (f : Nat → Int32) : (mdW cI cZ b μ).set 11 (b 11, .inl (cI, 24000, .inl f)) = mdW cI cZ b (μ.sA 10 f) := rfl
theorem mdA_11 (cI cZ : ClassId) (b : Nat → Nat) (μ : mSt) (f : Nat → Int32) : (mdW cI cZ b μ).set 12 (b 12, .inl (cI, 24000, .inl f)) = mdW cI cZ b (μ.sA 11 f) := rfl
theorem mdA_12 (cI cZ : ClassId) (b : Nat → Nat) (μ : mSt) (f : Nat → Int32) : (mdW cI cZ b μ).set 13 (b 13, .inl (cI, 3600, .inl f)) = mdW cI cZ b (μ.sA 12 f) := rfl
theorem mdA_13 (cI cZ : ClassId) (b : Nat → Nat) (μ : mSt) (f : Nat → Int32) : (mdW cI cZ b μ).set 14 (b 14, .inl (cI, 3600, .inl f)) = mdW cI cZ b (μ.sA 13 f) := rfl
theorem mdA_14 (cI cZ : ClassId) (b : Nat → Nat) (μ : mSt) (f : Nat → Int32) : (mdW cI cZ b μ).set 15 (b 15, .inl (cZ, 3600, .inl f)) = mdW cI cZ b (μ.sA 14 f) := rfl
theorem mdA_15 (cI cZ : ClassId) (b : Nat → Nat) (μ : mSt) (f : Nat → Int32) : (mdW cI cZ b μ).set 16 (b 16, .inl (cI, 16, .inl f)) = mdW cI cZ b (μ.sA 15 f) := rfl
theorem mdI_0 (cI cZ : ClassId) (b : Nat → Nat) (μ : mSt) : mdW cI cZ b (μ.sA 0 (μ.A 0)) = mdW cI cZ b μ := rfl
theorem mdT_0 (cI cZ : ClassId) (b : Nat → Nat) (μ : mSt) (f g : Nat → Int32) : mdW cI cZ b ((μ.sA 0 f).sA 0 g) = mdW cI cZ b (μ.sA 0 g) := rfl
theorem mdG_0 (μ : mSt) (f : Nat → Int32) : (μ.sA 0 f).A 0 = f := rfl
theorem mdI_1 (cI cZ : ClassId) (b : Nat → Nat) (μ : mSt) : mdW cI cZ b (μ.sA 1 (μ.A 1)) = mdW cI cZ b μ := rfl
theorem mdT_1 (cI cZ : ClassId) (b : Nat → Nat) (μ : mSt) (f g : Nat → Int32) : mdW cI cZ b ((μ.sA 1 f).sA 1 g) = mdW cI cZ b (μ.sA 1 g) := rfl
theorem mdG_1 (μ : mSt) (f : Nat → Int32) : (μ.sA 1 f).A 1 = f := rfl
theorem mdI_2 (cI cZ : ClassId) (b : Nat → Nat) (μ : mSt) : mdW cI cZ b (μ.sA 2 (μ.A 2)) = mdW cI cZ b μ := rfl
theorem mdT_2 (cI cZ : ClassId) (b : Nat → Nat) (μ : mSt) (f g : Nat → Int32) : mdW cI cZ b ((μ.sA 2 f).sA 2 g) = mdW cI cZ b (μ.sA 2 g) := rfl
theorem mdG_2 (μ : mSt) (f : Nat → Int32) : (μ.sA 2 f).A 2 = f := rfl
theorem mdI_3 (cI cZ : ClassId) (b : Nat → Nat) (μ : mSt) : mdW cI cZ b (μ.sA 3 (μ.A 3)) = mdW cI cZ b μ := rfl
theorem mdT_3 (cI cZ : ClassId) (b : Nat → Nat) (μ : mSt) (f g : Nat → Int32) : mdW cI cZ b ((μ.sA 3 f).sA 3 g) = mdW cI cZ b (μ.sA 3 g) := rfl
theorem mdG_3 (μ : mSt) (f : Nat → Int32) : (μ.sA 3 f).A 3 = f := rfl
theorem mdI_4 (cI cZ : ClassId) (b : Nat → Nat) (μ : mSt) : mdW cI cZ b (μ.sA 4 (μ.A 4)) = mdW cI cZ b μ := rfl
theorem mdT_4 (cI cZ : ClassId) (b : Nat → Nat) (μ : mSt) (f g : Nat → Int32) : mdW cI cZ b ((μ.sA 4 f).sA 4 g) = mdW cI cZ b (μ.sA 4 g) := rfl
theorem mdG_4 (μ : mSt) (f : Nat → Int32) : (μ.sA 4 f).A 4 = f := rfl
theorem mdI_5 (cI cZ : ClassId) (b : Nat → Nat) (μ : mSt) : mdW cI cZ b (μ.sA 5 (μ.A 5)) = mdW cI cZ b μ := rfl
theorem mdT_5 (cI cZ : ClassId) (b : Nat → Nat) (μ : mSt) (f g : Nat → Int32) : mdW cI cZ b ((μ.sA 5 f).sA 5 g) = mdW cI cZ b (μ.sA 5 g) := rfl
theorem mdG_5 (μ : mSt) (f : Nat → Int32) : (μ.sA 5 f).A 5 = f := rfl
theorem mdI_6 (cI cZ : ClassId) (b : Nat → Nat) (μ : mSt) : mdW cI cZ b (μ.sA 6 (μ.A 6)) = mdW cI cZ b μ := rfl
theorem mdT_6 (cI cZ : ClassId) (b : Nat → Nat) (μ : mSt) (f g : Nat → Int32) : mdW cI cZ b ((μ.sA 6 f).sA 6 g) = mdW cI cZ b (μ.sA 6 g) := rfl
theorem mdG_6 (μ : mSt) (f : Nat → Int32) : (μ.sA 6 f).A 6 = f := rfl
theorem mdI_7 (cI cZ : ClassId) (b : Nat → Nat) (μ : mSt) : mdW cI cZ b (μ.sA 7 (μ.A 7)) = mdW cI cZ b μ := rfl
theorem mdT_7 (cI cZ : ClassId) (b : Nat → Nat) (μ : mSt) (f g : Nat → Int32) : mdW cI cZ b ((μ.sA 7 f).sA 7 g) = mdW cI cZ b (μ.sA 7 g) := rfl
theorem mdG_7 (μ : mSt) (f : Nat → Int32) : (μ.sA 7 f).A 7 = f := rfl
theorem mdI_8 (cI cZ : ClassId) (b : Nat → Nat) (μ : mSt) : mdW cI cZ b (μ.sA 8 (μ.A 8)) = mdW cI cZ b μ := rfl
theorem mdT_8 (cI cZ : ClassId) (b : Nat → Nat) (μ : mSt) (f g : Nat → Int32) : mdW cI cZ b ((μ.sA 8 f).sA 8 g) = mdW cI cZ b (μ.sA 8 g) := rfl
theorem mdG_8 (μ : mSt) (f : Nat → Int32) : (μ.sA 8 f).A 8 = f := rfl
theorem mdI_9 (cI cZ : ClassId) (b : Nat → Nat) (μ : mSt) : mdW cI cZ b (μ.sA 9 (μ.A 9)) = mdW cI cZ b μ := rfl
theorem mdT_9 (cI cZ : ClassId) (b : Nat → Nat) (μ : mSt) (f g : Nat → Int32) : mdW cI cZ b ((μ.sA 9 f).sA 9 g) = mdW cI cZ b (μ.sA 9 g) := rfl
theorem mdG_9 (μ : mSt) (f : Nat → Int32) : (μ.sA 9 f).A 9 = f := rfl
theorem mdI_10 (cI cZ : ClassId) (b : Nat → Nat) (μ : mSt) : mdW cI cZ b (μ.sA 10 (μ.A 10)) = mdW cI cZ b μ := rfl
theorem mdT_10 (cI cZ : ClassId) (b : Nat → Nat) (μ : mSt) (f g : Nat → Int32) : mdW cI cZ b ((μ.sA 10 f).sA 10 g) = mdW cI cZ b (μ.sA 10 g) := rfl
theorem mdG_10 (μ : mSt) (f : Nat → Int32) : (μ.sA 10 f).A 10 = f := rfl
theorem mdI_11 (cI cZ : ClassId) (b : Nat → Nat) (μ : mSt) : mdW cI cZ b (μ.sA 11 (μ.A 11)) = mdW cI cZ b μ := rfl
theorem mdT_11 (cI cZ : ClassId) (b : Nat → Nat) (μ : mSt) (f g : Nat → Int32) : mdW cI cZ b ((μ.sA 11 f).sA 11 g) = mdW cI cZ b (μ.sA 11 g) := rfl
theorem mdG_11 (μ : mSt) (f : Nat → Int32) : (μ.sA 11 f).A 11 = f := rfl
theorem mdI_12 (cI cZ : ClassId) (b : Nat → Nat) (μ : mSt) : mdW cI cZ b (μ.sA 12 (μ.A 12)) = mdW cI cZ b μ := rfl
theorem mdT_12 (cI cZ : ClassId) (b : Nat → Nat) (μ : mSt) (f g : Nat → Int32) : mdW cI cZ b ((μ.sA 12 f).sA 12 g) = mdW cI cZ b (μ.sA 12 g) := rfl
theorem mdG_12 (μ : mSt) (f : Nat → Int32) : (μ.sA 12 f).A 12 = f := rfl
theorem mdI_13 (cI cZ : ClassId) (b : Nat → Nat) (μ : mSt) : mdW cI cZ b (μ.sA 13 (μ.A 13)) = mdW cI cZ b μ := rfl
theorem mdT_13 (cI cZ : ClassId) (b : Nat → Nat) (μ : mSt) (f g : Nat → Int32) : mdW cI cZ b ((μ.sA 13 f).sA 13 g) = mdW cI cZ b (μ.sA 13 g) := rfl
theorem mdG_13 (μ : mSt) (f : Nat → Int32) : (μ.sA 13 f).A 13 = f := rfl
theorem mdI_14 (cI cZ : ClassId) (b : Nat → Nat) (μ : mSt) : mdW cI cZ b (μ.sA 14 (μ.A 14)) = mdW cI cZ b μ := rfl
theorem mdT_14 (cI cZ : ClassId) (b : Nat → Nat) (μ : mSt) (f g : Nat → Int32) : mdW cI cZ b ((μ.sA 14 f).sA 14 g) = mdW cI cZ b (μ.sA 14 g) := rfl
theorem mdG_14 (μ : mSt) (f : Nat → Int32) : (μ.sA 14 f).A 14 = f := rfl
theorem mdI_15 (cI cZ : ClassId) (b : Nat → Nat) (μ : mSt) : mdW cI cZ b (μ.sA 15 (μ.A 15)) = mdW cI cZ b μ := rfl
theorem mdT_15 (cI cZ : ClassId) (b : Nat → Nat) (μ : mSt) (f g : Nat → Int32) : mdW cI cZ b ((μ.sA 15 f).sA 15 g) = mdW cI cZ b (μ.sA 15 g) := rfl
theorem mdG_15 (μ : mSt) (f : Nat → Int32) : (μ.sA 15 f).A 15 = f := rfl
theorem mdM_0 (cI cZ : ClassId) (b : Nat → Nat) (μ : mSt) (v : Int32) : (mdW cI cZ b μ).set 0 (b 0, .inr (2, [.int (μ.M 0), .ref (b 1), .ref (b 2), .ref (b 3), .int (μ.M 1), .int (μ.M 2), .ref (b 4), .ref (b 5), .ref (b 6), .ref (b 7), .ref (b 8), .ref (b 9), .ref (b 10), .int (μ.M 3), .ref (b 11), .ref (b 12), .int (μ.M 4), .ref (b 13), .int (μ.M 5), .ref (b 14), .ref (b 15), .ref (b 16), .int (μ.M 6), .int (μ.M 7), .int (μ.M 8)].set 0 (.int v))) = mdW cI cZ b (μ.sM 0 v) := rfl
theorem mdM_1 (cI cZ : ClassId) (b : Nat → Nat) (μ : mSt) (v : Int32) : (mdW cI cZ b μ).set 0 (b 0, .inr (2, [.int (μ.M 0), .ref (b 1), .ref (b 2), .ref (b 3), .int (μ.M 1), .int (μ.M 2), .ref (b 4), .ref (b 5), .ref (b 6), .ref (b 7), .ref (b 8), .ref (b 9), .ref (b 10), .int (μ.M 3), .ref (b 11), .ref (b 12), .int (μ.M 4), .ref (b 13), .int (μ.M 5), .ref (b 14), .ref (b 15), .ref (b 16), .int (μ.M 6), .int (μ.M 7), .int (μ.M 8)].set 4 (.int v))) = mdW cI cZ b (μ.sM 1 v) := rfl
theorem mdM_2 (cI cZ : ClassId) (b : Nat → Nat) (μ : mSt) (v : Int32) : (mdW cI cZ b μ).set 0 (b 0, .inr (2, [.int (μ.M 0), .ref (b 1), .ref (b 2), .ref (b 3), .int (μ.M 1), .int (μ.M 2), .ref (b 4), .ref (b 5), .ref (b 6), .ref (b 7), .ref (b 8), .ref (b 9), .ref (b 10), .int (μ.M 3), .ref (b 11), .ref (b 12), .int (μ.M 4), .ref (b 13), .int (μ.M 5), .ref (b 14), .ref (b 15), .ref (b 16), .int (μ.M 6), .int (μ.M 7), .int (μ.M 8)].set 5 (.int v))) = mdW cI cZ b (μ.sM 2 v) := rfl
theorem mdM_3 (cI cZ : ClassId) (b : Nat → Nat) (μ : mSt) (v : Int32) : (mdW cI cZ b μ).set 0 (b 0, .inr (2, [.int (μ.M 0), .ref (b 1), .ref (b 2), .ref (b 3), .int (μ.M 1), .int (μ.M 2), .ref (b 4), .ref (b 5), .ref (b 6), .ref (b 7), .ref (b 8), .ref (b 9), .ref (b 10), .int (μ.M 3), .ref (b 11), .ref (b 12), .int (μ.M 4), .ref (b 13), .int (μ.M 5), .ref (b 14), .ref (b 15), .ref (b 16), .int (μ.M 6), .int (μ.M 7), .int (μ.M 8)].set 13 (.int v))) = mdW cI cZ b (μ.sM 3 v) := rfl
theorem mdM_4 (cI cZ : ClassId) (b : Nat → Nat) (μ : mSt) (v : Int32) : (mdW cI cZ b μ).set 0 (b 0, .inr (2, [.int (μ.M 0), .ref (b 1), .ref (b 2), .ref (b 3), .int (μ.M 1), .int (μ.M 2), .ref (b 4), .ref (b 5), .ref (b 6), .ref (b 7), .ref (b 8), .ref (b 9), .ref (b 10), .int (μ.M 3), .ref (b 11), .ref (b 12), .int (μ.M 4), .ref (b 13), .int (μ.M 5), .ref (b 14), .ref (b 15), .ref (b 16), .int (μ.M 6), .int (μ.M 7), .int (μ.M 8)].set 16 (.int v))) = mdW cI cZ b (μ.sM 4 v) := rfl
theorem mdM_5 (cI cZ : ClassId) (b : Nat → Nat) (μ : mSt) (v : Int32) : (mdW cI cZ b μ).set 0 (b 0, .inr (2, [.int (μ.M 0), .ref (b 1), .ref (b 2), .ref (b 3), .int (μ.M 1), .int (μ.M 2), .ref (b 4), .ref (b 5), .ref (b 6), .ref (b 7), .ref (b 8), .ref (b 9), .ref (b 10), .int (μ.M 3), .ref (b 11), .ref (b 12), .int (μ.M 4), .ref (b 13), .int (μ.M 5), .ref (b 14), .ref (b 15), .ref (b 16), .int (μ.M 6), .int (μ.M 7), .int (μ.M 8)].set 18 (.int v))) = mdW cI cZ b (μ.sM 5 v) := rfl
theorem mdM_6 (cI cZ : ClassId) (b : Nat → Nat) (μ : mSt) (v : Int32) : (mdW cI cZ b μ).set 0 (b 0, .inr (2, [.int (μ.M 0), .ref (b 1), .ref (b 2), .ref (b 3), .int (μ.M 1), .int (μ.M 2), .ref (b 4), .ref (b 5), .ref (b 6), .ref (b 7), .ref (b 8), .ref (b 9), .ref (b 10), .int (μ.M 3), .ref (b 11), .ref (b 12), .int (μ.M 4), .ref (b 13), .int (μ.M 5), .ref (b 14), .ref (b 15), .ref (b 16), .int (μ.M 6), .int (μ.M 7), .int (μ.M 8)].set 22 (.int v))) = mdW cI cZ b (μ.sM 6 v) := rfl
theorem mdM_7 (cI cZ : ClassId) (b : Nat → Nat) (μ : mSt) (v : Int32) : (mdW cI cZ b μ).set 0 (b 0, .inr (2, [.int (μ.M 0), .ref (b 1), .ref (b 2), .ref (b 3), .int (μ.M 1), .int (μ.M 2), .ref (b 4), .ref (b 5), .ref (b 6), .ref (b 7), .ref (b 8), .ref (b 9), .ref (b 10), .int (μ.M 3), .ref (b 11), .ref (b 12), .int (μ.M 4), .ref (b 13), .int (μ.M 5), .ref (b 14), .ref (b 15), .ref (b 16), .int (μ.M 6), .int (μ.M 7), .int (μ.M 8)].set 23 (.int v))) = mdW cI cZ b (μ.sM 7 v) := rfl
theorem mdM_8 (cI cZ : ClassId) (b : Nat → Nat) (μ : mSt) (v : Int32) : (mdW cI cZ b μ).set 0 (b 0, .inr (2, [.int (μ.M 0), .ref (b 1), .ref (b 2), .ref (b 3), .int (μ.M 1), .int (μ.M 2), .ref (b 4), .ref (b 5), .ref (b 6), .ref (b 7), .ref (b 8), .ref (b 9), .ref (b 10), .int (μ.M 3), .ref (b 11), .ref (b 12), .int (μ.M 4), .ref (b 13), .int (μ.M 5), .ref (b 14), .ref (b 15), .ref (b 16), .int (μ.M 6), .int (μ.M 7), .int (μ.M 8)].set 24 (.int v))) = mdW cI cZ b (μ.sM 8 v) := rfl
set_option maxHeartbeats 4000000 in
set_option maxRecDepth 100000 in
/-- what the last call threw -/
theorem qMd_thrown (l : Launch) (D : va_G) (cI cZ : ClassId) (b : Nat → Nat) (μ : mSt) : gx_Mp l yMd_thrown (Cond.code yMd_thrown cMd_thrown 1 (some .int) :: gW) (gR 0) D gC (mdT cI cZ) (mdW cI cZ b μ) [.ref (b 0)] (μ.M 0) := by
  refine gx_Mp.of (cc := cMd_thrown) (maxL := 1) (ret := (some .int)) (by decide) rfl (Nat.le_of_ble_eq_true rfl) ?_
  intro p e s m args below meth c ls E hK hP hD hl
  obtain ⟨hx, hb, hr, hml, hts, hown, hlocks, hnm⟩ := id E
  have hg : ∀ w ∈ gW, w.before args s = true := fun w h => hts w (List.mem_cons_of_mem _ h)
  have hown : s.vm.findClass "NurseryRowModel" = some m.cls := hown
  have hl : lv_has ls 1 [(0, .ref (b 0))] := hl
  refine lv_aload_n hx hb dMd_thrown_0 rfl (lv_at hl 0 rfl) ?_
  refine va_get (C := RMd) (T := TMd) (N := 25) (ci := 2) (v := .int (μ.M 0)) hx hb hg inMd hown hK hP 0 rfl rfl 0 (by decide) (hg _ f_Md_70) (fun _ h9 => h9) rfl dMd_thrown_1 ?_
  exact gx_pret E rfl dMd_thrown_4
set_option maxHeartbeats 4000000 in
set_option maxRecDepth 100000 in
/-- may the call go on? -/
theorem qMd_goes (l : Launch) (D : va_G) (cI cZ : ClassId) (b : Nat → Nat) (μ : mSt) (y : Int32) (z : Int32) : gx_Mi l yMd_goes (Cond.code yMd_goes cMd_goes 3 (some .boolean) :: gW) (gR 0) D gC (mdT cI cZ) (mdW cI cZ b) μ [.ref (b 0), .int y, .int z] (fun r u => r = (if (if y = 0 then 1 else if z = 0 then 2 else 0 : Int32) = 0 then 1 else 0) ∧ u = μ.sM 0 (if y = 0 then 1 else if z = 0 then 2 else 0)) := by
  refine gx_Mi.of (cc := cMd_goes) (maxL := 3) (ret := (some .boolean)) (by decide) rfl (Nat.le_of_ble_eq_true rfl) ?_
  intro p e s m args below meth c ls A E hA hK hP hD hS hl
  obtain ⟨hx, hb, hr, hml, hts, hown, hlocks, hnm⟩ := id E
  have hg : ∀ w ∈ gW, w.before args s = true := fun w h => hts w (List.mem_cons_of_mem _ h)
  have hown : s.vm.findClass "NurseryRowModel" = some m.cls := hown
  have hl : lv_has ls 3 [(0, .ref (b 0)), (1, .int y), (2, .int z)] := hl
  refine lv_aload_n hx hb dMd_goes_0 rfl (lv_at hl 0 rfl) ?_
  refine lv_iload_n hx hb dMd_goes_1 rfl (lv_at hl 1 rfl) ?_
  refine lv_if_ne (tgt := 9) hx hb dMd_goes_2 (by decide) (fun c_2 => ?_) (fun c_2 => ?_)
  · refine lv_iload_n hx hb dMd_goes_9 rfl (lv_at hl 2 rfl) ?_
    refine lv_if_ne (tgt := 17) hx hb dMd_goes_10 (by decide) (fun c_10 => ?_) (fun c_10 => ?_)
    · refine lv_iconst (v := 0) hx hb dMd_goes_17 (by decide) ?_
      refine va_put (C := RMd) (T := TMd) (N := 25) (ci := 2) (v := .int 0) hx hb hg inMd tyMd tyMd_ok nmMd hown hK hP hD hS 0 rfl rfl 0 (by decide) (hg _ f_Md_70) (fun _ h9 => h9) rfl (tyMd_ok 0 (by decide)) rfl rfl (Nat.le_of_ble_eq_true rfl) dMd_goes_18 (fun H locs hP hD hS => ?_)
      rw [mdM_0] at hP hD
      refine lv_aload_n hx hb dMd_goes_21 rfl (lv_at hl 0 rfl) ?_
      refine va_get (C := RMd) (T := TMd) (N := 25) (ci := 2) (v := .int 0) hx hb hg inMd hown hK hP 0 rfl rfl 0 (by decide) (hg _ f_Md_70) (fun _ h9 => h9) rfl dMd_goes_22 ?_
      refine lv_if_ne (tgt := 32) hx hb dMd_goes_25 (by decide) (fun c_25 => ?_) (fun c_25 => ?_)
      · exact absurd c_25 (by decide)
      · refine lv_iconst (v := 1) hx hb dMd_goes_28 (by decide) ?_
        refine lv_goto (tgt := 33) hx hb dMd_goes_29 (by decide) ?_
        exact gx_ziret (u := μ.sM 0 0) E rfl hK hP hD hS ⟨by simp [c_2, c_10, c_25], by simp [c_2, c_10, c_25]⟩ dMd_goes_33
    · refine lv_iconst (v := 2) hx hb dMd_goes_13 (by decide) ?_
      refine lv_goto (tgt := 18) hx hb dMd_goes_14 (by decide) ?_
      refine va_put (C := RMd) (T := TMd) (N := 25) (ci := 2) (v := .int 2) hx hb hg inMd tyMd tyMd_ok nmMd hown hK hP hD hS 0 rfl rfl 0 (by decide) (hg _ f_Md_70) (fun _ h9 => h9) rfl (tyMd_ok 0 (by decide)) rfl rfl (Nat.le_of_ble_eq_true rfl) dMd_goes_18 (fun H locs hP hD hS => ?_)
      rw [mdM_0] at hP hD
      refine lv_aload_n hx hb dMd_goes_21 rfl (lv_at hl 0 rfl) ?_
      refine va_get (C := RMd) (T := TMd) (N := 25) (ci := 2) (v := .int 2) hx hb hg inMd hown hK hP 0 rfl rfl 0 (by decide) (hg _ f_Md_70) (fun _ h9 => h9) rfl dMd_goes_22 ?_
      refine lv_if_ne (tgt := 32) hx hb dMd_goes_25 (by decide) (fun c_25 => ?_) (fun c_25 => ?_)
      · refine lv_iconst (v := 0) hx hb dMd_goes_32 (by decide) ?_
        exact gx_ziret (u := μ.sM 0 2) E rfl hK hP hD hS ⟨by simp [c_2, c_10, c_25], by simp [c_2, c_10, c_25]⟩ dMd_goes_33
      · exact absurd c_25 (by decide)
  · refine lv_iconst (v := 1) hx hb dMd_goes_5 (by decide) ?_
    refine lv_goto (tgt := 18) hx hb dMd_goes_6 (by decide) ?_
    refine va_put (C := RMd) (T := TMd) (N := 25) (ci := 2) (v := .int 1) hx hb hg inMd tyMd tyMd_ok nmMd hown hK hP hD hS 0 rfl rfl 0 (by decide) (hg _ f_Md_70) (fun _ h9 => h9) rfl (tyMd_ok 0 (by decide)) rfl rfl (Nat.le_of_ble_eq_true rfl) dMd_goes_18 (fun H locs hP hD hS => ?_)
    rw [mdM_0] at hP hD
    refine lv_aload_n hx hb dMd_goes_21 rfl (lv_at hl 0 rfl) ?_
    refine va_get (C := RMd) (T := TMd) (N := 25) (ci := 2) (v := .int 1) hx hb hg inMd hown hK hP 0 rfl rfl 0 (by decide) (hg _ f_Md_70) (fun _ h9 => h9) rfl dMd_goes_22 ?_
    refine lv_if_ne (tgt := 32) hx hb dMd_goes_25 (by decide) (fun c_25 => ?_) (fun c_25 => ?_)
    · refine lv_iconst (v := 0) hx hb dMd_goes_32 (by decide) ?_
      exact gx_ziret (u := μ.sM 0 1) E rfl hK hP hD hS ⟨by simp [c_2, c_25], by simp [c_2, c_25]⟩ dMd_goes_33
    · exact absurd c_25 (by decide)
set_option maxHeartbeats 4000000 in
set_option maxRecDepth 100000 in
/-- an object's size -/
theorem qMd_size (l : Launch) (D : va_G) (cI cZ : ClassId) (b : Nat → Nat) (μ : mSt) (k : Nat) (hk : k < 3600) : gx_Mp l yMd_size (Cond.code yMd_size cMd_size 2 (some .int) :: gW) (gR 0) D gC (mdT cI cZ) (mdW cI cZ b μ) [.ref (b 0), .int (nI k)] (3 + μ.A 7 k + μ.A 8 k) := by
  refine gx_Mp.of (cc := cMd_size) (maxL := 2) (ret := (some .int)) (by decide) rfl (Nat.le_of_ble_eq_true rfl) ?_
  intro p e s m args below meth c ls E hK hP hD hl
  obtain ⟨hx, hb, hr, hml, hts, hown, hlocks, hnm⟩ := id E
  have hg : ∀ w ∈ gW, w.before args s = true := fun w h => hts w (List.mem_cons_of_mem _ h)
  have hown : s.vm.findClass "NurseryRowModel" = some m.cls := hown
  have hl : lv_has ls 2 [(0, .ref (b 0)), (1, .int (nI k))] := hl
  refine lv_iconst (v := 3) hx hb dMd_size_0 (by decide) ?_
  refine lv_aload_n hx hb dMd_size_1 rfl (lv_at hl 0 rfl) ?_
  refine va_get (C := RMd) (T := TMd) (N := 25) (ci := 2) (v := .ref (b 8)) hx hb hg inMd hown hK hP 0 rfl rfl 10 (by decide) (hg _ f_Md_39) (fun _ h9 => h9) rfl dMd_size_2 ?_
  refine lv_iload_n hx hb dMd_size_5 rfl (lv_at hl 1 rfl) ?_
  refine va_iald hx hb hK hP 8 0 rfl rfl (vp_in_nI (show k < 3600 from hk) (by decide)) dMd_size_6 ?_
  refine gx_top (z := (μ.A 7) k) (congrArg _ (nI_clamp (Nat.lt_trans (show k < 3600 from hk) (by decide)))) ?_
  refine lv_iadd hx hb dMd_size_7 ?_
  refine lv_aload_n hx hb dMd_size_8 rfl (lv_at hl 0 rfl) ?_
  refine va_get (C := RMd) (T := TMd) (N := 25) (ci := 2) (v := .ref (b 9)) hx hb hg inMd hown hK hP 0 rfl rfl 11 (by decide) (hg _ f_Md_42) (fun _ h9 => h9) rfl dMd_size_9 ?_
  refine lv_iload_n hx hb dMd_size_12 rfl (lv_at hl 1 rfl) ?_
  refine va_iald hx hb hK hP 9 0 rfl rfl (vp_in_nI (show k < 3600 from hk) (by decide)) dMd_size_13 ?_
  refine gx_top (z := (μ.A 8) k) (congrArg _ (nI_clamp (Nat.lt_trans (show k < 3600 from hk) (by decide)))) ?_
  refine lv_iadd hx hb dMd_size_14 ?_
  exact gx_pret E rfl dMd_size_15
set_option maxHeartbeats 4000000 in
set_option maxRecDepth 100000 in
/-- the first free number -/
theorem qMd_freeNumber (l : Launch) (D : va_G) (cI cZ : ClassId) (b : Nat → Nat) (μ : mSt) (k : Nat) (hk : k < 3600) (h0 : μ.A 3 k = 0) (h1 : ∀ j, j < k → ¬ μ.A 3 j = 0) : gx_Mp l yMd_freeNumber (Cond.code yMd_freeNumber cMd_freeNumber 2 (some .int) :: gW) (gR 0) D gC (mdT cI cZ) (mdW cI cZ b μ) [.ref (b 0)] (nI k) := by
  refine gx_Mp.of (cc := cMd_freeNumber) (maxL := 2) (ret := (some .int)) (by decide) rfl (Nat.le_of_ble_eq_true rfl) ?_
  intro p e s m args below meth c ls E hK hP hD hl
  obtain ⟨hx, hb, hr, hml, hts, hown, hlocks, hnm⟩ := id E
  have hg : ∀ w ∈ gW, w.before args s = true := fun w h => hts w (List.mem_cons_of_mem _ h)
  have hown : s.vm.findClass "NurseryRowModel" = some m.cls := hown
  have hl : lv_has ls 2 [(0, .ref (b 0))] := hl
  refine lv_iconst (v := 0) hx hb dMd_freeNumber_0 (by decide) ?_
  refine lv_istore_n (lv' := [(1, .int 0), (0, .ref (b 0))]) hx hb dMd_freeNumber_1 rfl hl (by decide) rfl (fun ls hl => ?_)
  have key : ∀ (n : Nat) (t : Nat) (ls : Array Slot), k - t < n → (t ≤ k) → lv_has ls 2 [(0, .ref (b 0)), (1, .int (nI t))] → W p l e (gR 0) s m args below meth c s.heap [] 0 0 (MQ below (QcRead (nI k)) args s 0 0 (fun _ => False)) (F0 m 2 ls []) := by
    intro n
    induction n with
    | zero => intro t ls hm; exact absurd hm (Nat.not_lt_zero _)
    | succ n ih =>
      intro t ls hm ht hl
      refine lv_aload_n hx hb dMd_freeNumber_2 rfl (lv_at hl 0 rfl) ?_
      refine va_get (C := RMd) (T := TMd) (N := 25) (ci := 2) (v := .ref (b 4)) hx hb hg inMd hown hK hP 0 rfl rfl 6 (by decide) (hg _ f_Md_26) (fun _ h9 => h9) rfl dMd_freeNumber_3 ?_
      refine lv_iload_n hx hb dMd_freeNumber_6 rfl (lv_at hl 1 rfl) ?_
      refine va_zald hx hb hK hP 4 1 rfl rfl (vp_in_nI (show t < 3600 from (by omega)) (by decide)) dMd_freeNumber_7 ?_
      refine gx_top (z := (μ.A 3) t) (congrArg _ (nI_clamp (Nat.lt_trans (show t < 3600 from (by omega)) (by decide)))) ?_
      refine lv_if_eq (tgt := 17) hx hb dMd_freeNumber_8 (by decide) (fun c_8 => ?_) (fun c_8 => ?_)
      · refine lv_iload_n hx hb dMd_freeNumber_17 rfl (lv_at hl 1 rfl) ?_
        exact gx_pret E (by rcases Nat.lt_or_eq_of_le ht with z | z; exact absurd c_8 (h1 t z); rw [z]) dMd_freeNumber_18
      · refine lv_iinc (v := nI (t + 1)) (lv' := [(1, .int (nI (t + 1))), (0, .ref (b 0))]) hx hb dMd_freeNumber_11 hl (k := 1) rfl (by rw [← nI_1]; rfl) (by decide) rfl (fun ls hl => ?_)
        refine lv_goto (tgt := 2) hx hb dMd_freeNumber_14 (by decide) ?_
        exact ih (t + 1) ls (by have : t < k := Nat.lt_of_le_of_ne ht (fun z => c_8 (by rw [z]; exact h0)); omega) (by have : t < k := Nat.lt_of_le_of_ne ht (fun z => c_8 (by rw [z]; exact h0)); omega) (lv_sub hl [1, 0] rfl)
  exact key ((k - 0) + 1) 0 ls (Nat.lt_succ_self _) (Nat.zero_le _) (lv_sub hl [1, 0] rfl)
/-- the number r of the object at x; -1 if there is none -/
def objR (μ : mSt) (x r : Int32) : Prop := (∃ k, k < 3600 ∧ ¬ μ.A 3 k = 0 ∧ μ.A 5 k = x ∧ (∀ j, j < k → μ.A 3 j = 0 ∨ ¬ μ.A 5 j = x) ∧ r = nI k) ∨ ((∀ j, j < 3600 → μ.A 3 j = 0 ∨ ¬ μ.A 5 j = x) ∧ r = -1)
theorem objR_y {μ : mSt} {x r : Int32} {t : Nat} (h : objR μ x r) (ht : t < 3600) (hb : ∀ j, j < t → μ.A 3 j = 0 ∨ ¬ μ.A 5 j = x) (c1 : ¬ μ.A 3 t = 0) (c2 : μ.A 5 t = x) : nI t = r := by
  rcases h with ⟨k, hk, h1, h2, h3, rfl⟩ | ⟨h1, rfl⟩
  · rcases Nat.lt_trichotomy t k with z | z | z
    · rcases h3 t z with w | w
      · exact absurd w c1
      · exact absurd c2 w
    · rw [z]
    · rcases hb k z with w | w
      · exact absurd w h1
      · exact absurd h2 w
  · rcases h1 t ht with w | w
    · exact absurd w c1
    · exact absurd c2 w
theorem objR_n {μ : mSt} {x r : Int32} {t : Nat} (h : objR μ x r) (hb : ∀ j, j < t → μ.A 3 j = 0 ∨ ¬ μ.A 5 j = x) (ht : 3600 ≤ t) : -1 = r := by
  rcases h with ⟨k, hk, h1, h2, h3, rfl⟩ | ⟨h1, rfl⟩
  · rcases hb k (by omega) with w | w
    · exact absurd w h1
    · exact absurd h2 w
  · rfl
set_option maxHeartbeats 4000000 in
set_option maxRecDepth 100000 in
/-- the object at x -/
theorem qMd_object (l : Launch) (D : va_G) (cI cZ : ClassId) (b : Nat → Nat) (μ : mSt) (x r : Int32) (h : objR μ x r) : gx_Mp l yMd_object (Cond.code yMd_object cMd_object 3 (some .int) :: gW) (gR 0) D gC (mdT cI cZ) (mdW cI cZ b μ) [.ref (b 0), .int x] (r) := by
  refine gx_Mp.of (cc := cMd_object) (maxL := 3) (ret := (some .int)) (by decide) rfl (Nat.le_of_ble_eq_true rfl) ?_
  intro p e s m args below meth c ls E hK hP hD hl
  obtain ⟨hx, hb, hr, hml, hts, hown, hlocks, hnm⟩ := id E
  have hg : ∀ w ∈ gW, w.before args s = true := fun w h => hts w (List.mem_cons_of_mem _ h)
  have hown : s.vm.findClass "NurseryRowModel" = some m.cls := hown
  have hl : lv_has ls 3 [(0, .ref (b 0)), (1, .int x)] := hl
  refine lv_iconst (v := 0) hx hb dMd_object_0 (by decide) ?_
  refine lv_istore_n (lv' := [(2, .int 0), (0, .ref (b 0)), (1, .int x)]) hx hb dMd_object_1 rfl hl (by decide) rfl (fun ls hl => ?_)
  have key : ∀ (n : Nat) (t : Nat) (ls : Array Slot), 3600 - t < n → (t ≤ 3600) → (∀ j, j < t → μ.A 3 j = 0 ∨ ¬ μ.A 5 j = x) → lv_has ls 3 [(0, .ref (b 0)), (1, .int x), (2, .int (nI t))] → W p l e (gR 0) s m args below meth c s.heap [] 0 0 (MQ below (QcRead (r)) args s 0 0 (fun _ => False)) (F0 m 2 ls []) := by
    intro n
    induction n with
    | zero => intro t ls hm; exact absurd hm (Nat.not_lt_zero _)
    | succ n ih =>
      intro t ls hm ht hbj hl
      refine lv_iload_n hx hb dMd_object_2 rfl (lv_at hl 2 rfl) ?_
      refine lv_sipush (v := 3600) hx hb dMd_object_3 (by decide) ?_
      refine lv_icmp_ge (tgt := 36) hx hb dMd_object_6 (by decide) (fun c_6 => ?_) (fun c_6 => ?_)
      · refine lv_iconst (v := (-1)) hx hb dMd_object_36 (by decide) ?_
        exact gx_pret E (objR_n h hbj (Nat.not_lt.mp fun z => nI_ge (b := 3600) z (by decide) c_6)) dMd_object_37
      · have hlt : t < 3600 := Nat.not_le.mp fun z => c_6 (nI_le (a := 3600) z (by omega))
        refine lv_aload_n hx hb dMd_object_9 rfl (lv_at hl 0 rfl) ?_
        refine va_get (C := RMd) (T := TMd) (N := 25) (ci := 2) (v := .ref (b 4)) hx hb hg inMd hown hK hP 0 rfl rfl 6 (by decide) (hg _ f_Md_26) (fun _ h9 => h9) rfl dMd_object_10 ?_
        refine lv_iload_n hx hb dMd_object_13 rfl (lv_at hl 2 rfl) ?_
        refine va_zald hx hb hK hP 4 1 rfl rfl (vp_in_nI (show t < 3600 from hlt) (by decide)) dMd_object_14 ?_
        refine gx_top (z := (μ.A 3) t) (congrArg _ (nI_clamp (Nat.lt_trans (show t < 3600 from hlt) (by decide)))) ?_
        refine lv_if_eq (tgt := 30) hx hb dMd_object_15 (by decide) (fun c_15 => ?_) (fun c_15 => ?_)
        · refine lv_iinc (v := nI (t + 1)) (lv' := [(2, .int (nI (t + 1))), (0, .ref (b 0)), (1, .int x)]) hx hb dMd_object_30 hl (k := 2) rfl (by rw [← nI_1]; rfl) (by decide) rfl (fun ls hl => ?_)
          refine lv_goto (tgt := 2) hx hb dMd_object_33 (by decide) ?_
          exact ih (t + 1) ls (by omega) (by omega) (lt_s hbj (Or.inl c_15)) (lv_sub hl [1, 2, 0] rfl)
        · refine lv_aload_n hx hb dMd_object_18 rfl (lv_at hl 0 rfl) ?_
          refine va_get (C := RMd) (T := TMd) (N := 25) (ci := 2) (v := .ref (b 6)) hx hb hg inMd hown hK hP 0 rfl rfl 8 (by decide) (hg _ f_Md_33) (fun _ h9 => h9) rfl dMd_object_19 ?_
          refine lv_iload_n hx hb dMd_object_22 rfl (lv_at hl 2 rfl) ?_
          refine va_iald hx hb hK hP 6 0 rfl rfl (vp_in_nI (show t < 3600 from hlt) (by decide)) dMd_object_23 ?_
          refine gx_top (z := (μ.A 5) t) (congrArg _ (nI_clamp (Nat.lt_trans (show t < 3600 from hlt) (by decide)))) ?_
          refine lv_iload_n hx hb dMd_object_24 rfl (lv_at hl 1 rfl) ?_
          refine lv_icmp_ne (tgt := 30) hx hb dMd_object_25 (by decide) (fun c_25 => ?_) (fun c_25 => ?_)
          · refine lv_iinc (v := nI (t + 1)) (lv' := [(2, .int (nI (t + 1))), (0, .ref (b 0)), (1, .int x)]) hx hb dMd_object_30 hl (k := 2) rfl (by rw [← nI_1]; rfl) (by decide) rfl (fun ls hl => ?_)
            refine lv_goto (tgt := 2) hx hb dMd_object_33 (by decide) ?_
            exact ih (t + 1) ls (by omega) (by omega) (lt_s hbj (Or.inr c_25)) (lv_sub hl [1, 2, 0] rfl)
          · refine lv_iload_n hx hb dMd_object_28 rfl (lv_at hl 2 rfl) ?_
            exact gx_pret E (objR_y h hlt hbj c_15 c_25) dMd_object_29
  exact key ((3600 - 0) + 1) 0 ls (Nat.lt_succ_self _) (Nat.zero_le _) (fun j hj => absurd hj (Nat.not_lt_zero _)) (lv_sub hl [1, 2, 0] rfl)
