-- words that every method has: the good ones of the tables
def gW : List Cond := lw_tbl.filter goodWord
theorem gm {w : Cond} (i : Nat) (h : lw_tbl[i]? = some w) (hg : goodWord w = true) : w ∈ gW := List.mem_filter.mpr ⟨List.mem_of_getElem? h, hg⟩
theorem gm_tbl : GoodIn lw_tbl gW := fun w h => ⟨(List.mem_filter.mp h).1, good_of_word (List.mem_filter.mp h).2⟩
theorem gm_self {x : Cond} : GoodIn (x :: gW) gW := fun w h => ⟨List.mem_cons_of_mem _ h, good_of_word (List.mem_filter.mp h).2⟩
def RPt : String := "NurseryRow$Part"
def TPt : u_T := fun k => match k with
  | 0 => ("NurseryRow$Part", "first", "I", false)
  | 1 => ("NurseryRow$Part", "cells", "I", false)
  | 2 => ("NurseryRow$Part", "used", "I", false)
  | _ => ("NurseryRow$Part", "objects", "I", false)
def tyPt : Nat → FieldType := fun k => match k with
  | 0 => .int
  | 1 => .int
  | 2 => .int
  | _ => .int
theorem nmPt : ∀ a, a < 4 → ∀ b, b < 4 → a ≠ b → (TPt a).2.1 ≠ (TPt b).2.1 := by decide +kernel
theorem tyPt_ok : ∀ k, k < 4 → parseFieldDescriptor (TPt k).2.2.1 = some (tyPt k) := by decide +kernel
theorem inPt : ∀ w ∈ u_ws RPt TPt 4, w ∈ gW := by
  intro w h
  simp only [u_ws, List.mem_map, List.mem_range] at h
  obtain ⟨j, hj, rfl⟩ := h
  rcases (show j = 0 ∨ j = 1 ∨ j = 2 ∨ j = 3 by omega) with rfl | rfl | rfl | rfl
  · exact gm 76 (by decide +kernel) (by decide +kernel)
  · exact gm 78 (by decide +kernel) (by decide +kernel)
  · exact gm 80 (by decide +kernel) (by decide +kernel)
  · exact gm 82 (by decide +kernel) (by decide +kernel)
def RNr : String := "NurseryRow"
def TNr : u_T := fun k => match k with
  | 0 => ("NurseryRow", "parts", "[LNurseryRow$Part;", true)
  | 1 => ("NurseryRow", "roots", "[I", true)
  | 2 => ("NurseryRow", "copies", "[I", true)
  | 3 => ("NurseryRow", "cells", "[I", false)
  | 4 => ("NurseryRow", "copied", "I", false)
  | 5 => ("NurseryRow", "ageLimit", "I", false)
  | 6 => ("NurseryRow", "rowInUse", "I", false)
  | 7 => ("NurseryRow", "collections", "I", false)
  | 8 => ("NurseryRow", "copiesInRows", "I", false)
  | _ => ("NurseryRow", "copiesInOld", "I", false)
def tyNr : Nat → FieldType := fun k => match k with
  | 0 => .array (.object "NurseryRow$Part")
  | 1 => .array .int
  | 2 => .array .int
  | 3 => .array .int
  | 4 => .int
  | 5 => .int
  | 6 => .int
  | 7 => .int
  | 8 => .int
  | _ => .int
theorem nmNr : ∀ a, a < 10 → ∀ b, b < 10 → a ≠ b → (TNr a).2.1 ≠ (TNr b).2.1 := by decide +kernel
theorem tyNr_ok : ∀ k, k < 10 → parseFieldDescriptor (TNr k).2.2.1 = some (tyNr k) := by decide +kernel
theorem inNr : ∀ w ∈ u_ws RNr TNr 10, w ∈ gW := by
  intro w h
  simp only [u_ws, List.mem_map, List.mem_range] at h
  obtain ⟨j, hj, rfl⟩ := h
  rcases (show j = 0 ∨ j = 1 ∨ j = 2 ∨ j = 3 ∨ j = 4 ∨ j = 5 ∨ j = 6 ∨ j = 7 ∨ j = 8 ∨ j = 9 by omega) with rfl | rfl | rfl | rfl | rfl | rfl | rfl | rfl | rfl | rfl
  · exact gm 107 (by decide +kernel) (by decide +kernel)
  · exact gm 109 (by decide +kernel) (by decide +kernel)
  · exact gm 111 (by decide +kernel) (by decide +kernel)
  · exact gm 113 (by decide +kernel) (by decide +kernel)
  · exact gm 115 (by decide +kernel) (by decide +kernel)
  · exact gm 117 (by decide +kernel) (by decide +kernel)
  · exact gm 119 (by decide +kernel) (by decide +kernel)
  · exact gm 121 (by decide +kernel) (by decide +kernel)
  · exact gm 123 (by decide +kernel) (by decide +kernel)
  · exact gm 125 (by decide +kernel) (by decide +kernel)
def RMd : String := "NurseryRowModel"
def TMd : u_T := fun k => match k with
  | 0 => ("NurseryRowModel", "thrown", "I", false)
  | 1 => ("NurseryRowModel", "firsts", "[I", true)
  | 2 => ("NurseryRowModel", "sizes", "[I", true)
  | 3 => ("NurseryRowModel", "tops", "[I", true)
  | 4 => ("NurseryRowModel", "row", "I", false)
  | 5 => ("NurseryRowModel", "limited", "I", false)
  | 6 => ("NurseryRowModel", "there", "[Z", true)
  | 7 => ("NurseryRowModel", "areas", "[I", true)
  | 8 => ("NurseryRowModel", "addresses", "[I", true)
  | 9 => ("NurseryRowModel", "ages", "[I", true)
  | 10 => ("NurseryRowModel", "fields", "[I", true)
  | 11 => ("NurseryRowModel", "words", "[I", true)
  | 12 => ("NurseryRowModel", "starts", "[I", true)
  | 13 => ("NurseryRowModel", "filled", "I", false)
  | 14 => ("NurseryRowModel", "data", "[I", true)
  | 15 => ("NurseryRowModel", "spare", "[I", true)
  | 16 => ("NurseryRowModel", "oldMany", "I", false)
  | 17 => ("NurseryRowModel", "olds", "[I", true)
  | 18 => ("NurseryRowModel", "copies", "I", false)
  | 19 => ("NurseryRowModel", "copied", "[I", true)
  | 20 => ("NurseryRowModel", "moved", "[Z", true)
  | 21 => ("NurseryRowModel", "roots", "[I", true)
  | 22 => ("NurseryRowModel", "collections", "I", false)
  | 23 => ("NurseryRowModel", "toRows", "I", false)
  | _ => ("NurseryRowModel", "toOld", "I", false)
def tyMd : Nat → FieldType := fun k => match k with
  | 0 => .int
  | 1 => .array .int
  | 2 => .array .int
  | 3 => .array .int
  | 4 => .int
  | 5 => .int
  | 6 => .array .boolean
  | 7 => .array .int
  | 8 => .array .int
  | 9 => .array .int
  | 10 => .array .int
  | 11 => .array .int
  | 12 => .array .int
  | 13 => .int
  | 14 => .array .int
  | 15 => .array .int
  | 16 => .int
  | 17 => .array .int
  | 18 => .int
  | 19 => .array .int
  | 20 => .array .boolean
  | 21 => .array .int
  | 22 => .int
  | 23 => .int
  | _ => .int
theorem nmMd : ∀ a, a < 25 → ∀ b, b < 25 → a ≠ b → (TMd a).2.1 ≠ (TMd b).2.1 := by decide +kernel
theorem tyMd_ok : ∀ k, k < 25 → parseFieldDescriptor (TMd k).2.2.1 = some (tyMd k) := by decide +kernel
theorem inMd : ∀ w ∈ u_ws RMd TMd 25, w ∈ gW := by
  intro w h
  simp only [u_ws, List.mem_map, List.mem_range] at h
  obtain ⟨j, hj, rfl⟩ := h
  rcases (show j = 0 ∨ j = 1 ∨ j = 2 ∨ j = 3 ∨ j = 4 ∨ j = 5 ∨ j = 6 ∨ j = 7 ∨ j = 8 ∨ j = 9 ∨ j = 10 ∨ j = 11 ∨ j = 12 ∨ j = 13 ∨ j = 14 ∨ j = 15 ∨ j = 16 ∨ j = 17 ∨ j = 18 ∨ j = 19 ∨ j = 20 ∨ j = 21 ∨ j = 22 ∨ j = 23 ∨ j = 24 by omega) with rfl | rfl | rfl | rfl | rfl | rfl | rfl | rfl | rfl | rfl | rfl | rfl | rfl | rfl | rfl | rfl | rfl | rfl | rfl | rfl | rfl | rfl | rfl | rfl | rfl
  · exact gm 712 (by decide +kernel) (by decide +kernel)
  · exact gm 714 (by decide +kernel) (by decide +kernel)
  · exact gm 716 (by decide +kernel) (by decide +kernel)
  · exact gm 718 (by decide +kernel) (by decide +kernel)
  · exact gm 720 (by decide +kernel) (by decide +kernel)
  · exact gm 722 (by decide +kernel) (by decide +kernel)
  · exact gm 724 (by decide +kernel) (by decide +kernel)
  · exact gm 726 (by decide +kernel) (by decide +kernel)
  · exact gm 728 (by decide +kernel) (by decide +kernel)
  · exact gm 730 (by decide +kernel) (by decide +kernel)
  · exact gm 732 (by decide +kernel) (by decide +kernel)
  · exact gm 734 (by decide +kernel) (by decide +kernel)
  · exact gm 736 (by decide +kernel) (by decide +kernel)
  · exact gm 738 (by decide +kernel) (by decide +kernel)
  · exact gm 740 (by decide +kernel) (by decide +kernel)
  · exact gm 742 (by decide +kernel) (by decide +kernel)
  · exact gm 744 (by decide +kernel) (by decide +kernel)
  · exact gm 746 (by decide +kernel) (by decide +kernel)
  · exact gm 748 (by decide +kernel) (by decide +kernel)
  · exact gm 750 (by decide +kernel) (by decide +kernel)
  · exact gm 752 (by decide +kernel) (by decide +kernel)
  · exact gm 754 (by decide +kernel) (by decide +kernel)
  · exact gm 756 (by decide +kernel) (by decide +kernel)
  · exact gm 758 (by decide +kernel) (by decide +kernel)
  · exact gm 760 (by decide +kernel) (by decide +kernel)
abbrev gC : List vw_C := [(RPt, TPt, 4), (RNr, TNr, 10), (RMd, TMd, 25)]
abbrev cNr_init : ByteArray := prog_1_method_1_code
def yNr_init : MethodName := ⟨"NurseryRow", "<init>", "()V"⟩
theorem k_Nr_init : Cond.code yNr_init cNr_init 2 (none : Option Jvm.ClassFile.FieldType) ∈ gW := gm 57 (by decide +kernel) (by decide +kernel)
theorem n_Nr_init : yNr_init.cls = "NurseryRow" ∧ yNr_init.cls ≠ "java/lang/invoke/MethodHandle" ∧ yNr_init.cls ≠ "java/lang/invoke/VarHandle" ∧ (parseMethodDescriptor yNr_init.desc).map (fun d => d.parameters.length) = some 0 := by decide +kernel
theorem ki_Nr_init : Cond.instanceMethod yNr_init ∈ gW := gm 56 (by decide +kernel) (by decide +kernel)
abbrev cPt_init : ByteArray := prog_2_method_1_code
def yPt_init : MethodName := ⟨"NurseryRow$Part", "<init>", "()V"⟩
theorem k_Pt_init : Cond.code yPt_init cPt_init 1 (none : Option Jvm.ClassFile.FieldType) ∈ gW := gm 66 (by decide +kernel) (by decide +kernel)
theorem n_Pt_init : yPt_init.cls = "NurseryRow$Part" ∧ yPt_init.cls ≠ "java/lang/invoke/MethodHandle" ∧ yPt_init.cls ≠ "java/lang/invoke/VarHandle" ∧ (parseMethodDescriptor yPt_init.desc).map (fun d => d.parameters.length) = some 0 := by decide +kernel
theorem ki_Pt_init : Cond.instanceMethod yPt_init ∈ gW := gm 65 (by decide +kernel) (by decide +kernel)
abbrev cNr_layParts : ByteArray := prog_1_method_16_code
def yNr_layParts : MethodName := ⟨"NurseryRow", "layParts", "(III)V"⟩
theorem k_Nr_layParts : Cond.code yNr_layParts cNr_layParts 4 (none : Option Jvm.ClassFile.FieldType) ∈ gW := gm 88 (by decide +kernel) (by decide +kernel)
theorem n_Nr_layParts : yNr_layParts.cls = "NurseryRow" ∧ yNr_layParts.cls ≠ "java/lang/invoke/MethodHandle" ∧ yNr_layParts.cls ≠ "java/lang/invoke/VarHandle" ∧ (parseMethodDescriptor yNr_layParts.desc).map (fun d => d.parameters.length) = some 3 := by decide +kernel
theorem ki_Nr_layParts : Cond.instanceMethod yNr_layParts ∈ gW := gm 87 (by decide +kernel) (by decide +kernel)
theorem ke_Nr_layParts : Cond.selects "NurseryRow" yNr_layParts yNr_layParts ∈ gW := gm 0 (by decide +kernel) (by decide +kernel)
abbrev cPt_lay : ByteArray := prog_2_method_2_code
def yPt_lay : MethodName := ⟨"NurseryRow$Part", "lay", "(II)V"⟩
theorem k_Pt_lay : Cond.code yPt_lay cPt_lay 3 (none : Option Jvm.ClassFile.FieldType) ∈ gW := gm 92 (by decide +kernel) (by decide +kernel)
theorem n_Pt_lay : yPt_lay.cls = "NurseryRow$Part" ∧ yPt_lay.cls ≠ "java/lang/invoke/MethodHandle" ∧ yPt_lay.cls ≠ "java/lang/invoke/VarHandle" ∧ (parseMethodDescriptor yPt_lay.desc).map (fun d => d.parameters.length) = some 2 := by decide +kernel
theorem ki_Pt_lay : Cond.instanceMethod yPt_lay ∈ gW := gm 90 (by decide +kernel) (by decide +kernel)
theorem ke_Pt_lay : Cond.selects "NurseryRow$Part" yPt_lay yPt_lay ∈ gW := gm 91 (by decide +kernel) (by decide +kernel)
abbrev cPt_empty : ByteArray := prog_2_method_3_code
def yPt_empty : MethodName := ⟨"NurseryRow$Part", "empty", "()V"⟩
theorem k_Pt_empty : Cond.code yPt_empty cPt_empty 1 (none : Option Jvm.ClassFile.FieldType) ∈ gW := gm 96 (by decide +kernel) (by decide +kernel)
theorem n_Pt_empty : yPt_empty.cls = "NurseryRow$Part" ∧ yPt_empty.cls ≠ "java/lang/invoke/MethodHandle" ∧ yPt_empty.cls ≠ "java/lang/invoke/VarHandle" ∧ (parseMethodDescriptor yPt_empty.desc).map (fun d => d.parameters.length) = some 0 := by decide +kernel
theorem ki_Pt_empty : Cond.instanceMethod yPt_empty ∈ gW := gm 94 (by decide +kernel) (by decide +kernel)
theorem ke_Pt_empty : Cond.selects "NurseryRow$Part" yPt_empty yPt_empty ∈ gW := gm 95 (by decide +kernel) (by decide +kernel)
abbrev cLw_space : ByteArray := method_3_code
def yLw_space : MethodName := ⟨"NurseryRowLaw", "space", "(LNurseryRow;III[J)I"⟩
theorem k_Lw_space : Cond.codeWith yLw_space cLw_space 6 (some .int) [(0, 12, 15, 13)] ∈ gW := gm 131 (by decide +kernel) (by decide +kernel)
theorem n_Lw_space : yLw_space.cls = "NurseryRowLaw" ∧ yLw_space.cls ≠ "java/lang/invoke/MethodHandle" ∧ yLw_space.cls ≠ "java/lang/invoke/VarHandle" ∧ (parseMethodDescriptor yLw_space.desc).map (fun d => d.parameters.length) = some 5 := by decide +kernel
theorem kt_Lw_space : Cond.static yLw_space ∈ gW := gm 130 (by decide +kernel) (by decide +kernel)
abbrev cNr_space : ByteArray := prog_1_method_2_code
def yNr_space : MethodName := ⟨"NurseryRow", "space", "(III)I"⟩
theorem k_Nr_space : Cond.code yNr_space cNr_space 5 (some .int) ∈ gW := gm 136 (by decide +kernel) (by decide +kernel)
theorem n_Nr_space : yNr_space.cls = "NurseryRow" ∧ yNr_space.cls ≠ "java/lang/invoke/MethodHandle" ∧ yNr_space.cls ≠ "java/lang/invoke/VarHandle" ∧ (parseMethodDescriptor yNr_space.desc).map (fun d => d.parameters.length) = some 3 := by decide +kernel
theorem ki_Nr_space : Cond.instanceMethod yNr_space ∈ gW := gm 134 (by decide +kernel) (by decide +kernel)
theorem ke_Nr_space : Cond.selects "NurseryRow" yNr_space yNr_space ∈ gW := gm 135 (by decide +kernel) (by decide +kernel)
abbrev cNr_isWithin : ByteArray := prog_1_method_15_code
def yNr_isWithin : MethodName := ⟨"NurseryRow", "isWithin", "(III)Z"⟩
theorem k_Nr_isWithin : Cond.code yNr_isWithin cNr_isWithin 3 (some .boolean) ∈ gW := gm 139 (by decide +kernel) (by decide +kernel)
theorem n_Nr_isWithin : yNr_isWithin.cls = "NurseryRow" ∧ yNr_isWithin.cls ≠ "java/lang/invoke/MethodHandle" ∧ yNr_isWithin.cls ≠ "java/lang/invoke/VarHandle" ∧ (parseMethodDescriptor yNr_isWithin.desc).map (fun d => d.parameters.length) = some 3 := by decide +kernel
theorem kt_Nr_isWithin : Cond.static yNr_isWithin ∈ gW := gm 138 (by decide +kernel) (by decide +kernel)
abbrev cNr_allCells : ByteArray := prog_1_method_17_code
def yNr_allCells : MethodName := ⟨"NurseryRow", "allCells", "()I"⟩
theorem k_Nr_allCells : Cond.code yNr_allCells cNr_allCells 3 (some .int) ∈ gW := gm 211 (by decide +kernel) (by decide +kernel)
theorem n_Nr_allCells : yNr_allCells.cls = "NurseryRow" ∧ yNr_allCells.cls ≠ "java/lang/invoke/MethodHandle" ∧ yNr_allCells.cls ≠ "java/lang/invoke/VarHandle" ∧ (parseMethodDescriptor yNr_allCells.desc).map (fun d => d.parameters.length) = some 0 := by decide +kernel
theorem ki_Nr_allCells : Cond.instanceMethod yNr_allCells ∈ gW := gm 210 (by decide +kernel) (by decide +kernel)
theorem ke_Nr_allCells : Cond.selects "NurseryRow" yNr_allCells yNr_allCells ∈ gW := gm 2 (by decide +kernel) (by decide +kernel)
abbrev cNr_growCells : ByteArray := prog_1_method_18_code
def yNr_growCells : MethodName := ⟨"NurseryRow", "growCells", "()V"⟩
theorem k_Nr_growCells : Cond.code yNr_growCells cNr_growCells 1 (none : Option Jvm.ClassFile.FieldType) ∈ gW := gm 215 (by decide +kernel) (by decide +kernel)
theorem n_Nr_growCells : yNr_growCells.cls = "NurseryRow" ∧ yNr_growCells.cls ≠ "java/lang/invoke/MethodHandle" ∧ yNr_growCells.cls ≠ "java/lang/invoke/VarHandle" ∧ (parseMethodDescriptor yNr_growCells.desc).map (fun d => d.parameters.length) = some 0 := by decide +kernel
theorem ki_Nr_growCells : Cond.instanceMethod yNr_growCells ∈ gW := gm 214 (by decide +kernel) (by decide +kernel)
theorem ke_Nr_growCells : Cond.selects "NurseryRow" yNr_growCells yNr_growCells ∈ gW := gm 3 (by decide +kernel) (by decide +kernel)
abbrev cAr_fill2 : ByteArray := prog_19_method_103_code
def yAr_fill2 : MethodName := ⟨"java/util/Arrays", "fill", "([II)V"⟩
theorem k_Ar_fill2 : Cond.code yAr_fill2 cAr_fill2 4 (none : Option Jvm.ClassFile.FieldType) ∈ gW := gm 218 (by decide +kernel) (by decide +kernel)
theorem n_Ar_fill2 : yAr_fill2.cls = "java/util/Arrays" ∧ yAr_fill2.cls ≠ "java/lang/invoke/MethodHandle" ∧ yAr_fill2.cls ≠ "java/lang/invoke/VarHandle" ∧ (parseMethodDescriptor yAr_fill2.desc).map (fun d => d.parameters.length) = some 2 := by decide +kernel
theorem kt_Ar_fill2 : Cond.static yAr_fill2 ∈ gW := gm 217 (by decide +kernel) (by decide +kernel)
abbrev cLw_limit : ByteArray := method_4_code
def yLw_limit : MethodName := ⟨"NurseryRowLaw", "limit", "(LNurseryRow;I[J)I"⟩
theorem k_Lw_limit : Cond.codeWith yLw_limit cLw_limit 4 (some .int) [(0, 9, 12, 13)] ∈ gW := gm 221 (by decide +kernel) (by decide +kernel)
theorem n_Lw_limit : yLw_limit.cls = "NurseryRowLaw" ∧ yLw_limit.cls ≠ "java/lang/invoke/MethodHandle" ∧ yLw_limit.cls ≠ "java/lang/invoke/VarHandle" ∧ (parseMethodDescriptor yLw_limit.desc).map (fun d => d.parameters.length) = some 3 := by decide +kernel
theorem kt_Lw_limit : Cond.static yLw_limit ∈ gW := gm 220 (by decide +kernel) (by decide +kernel)
abbrev cNr_limit : ByteArray := prog_1_method_3_code
def yNr_limit : MethodName := ⟨"NurseryRow", "limit", "(I)I"⟩
theorem k_Nr_limit : Cond.code yNr_limit cNr_limit 3 (some .int) ∈ gW := gm 225 (by decide +kernel) (by decide +kernel)
theorem n_Nr_limit : yNr_limit.cls = "NurseryRow" ∧ yNr_limit.cls ≠ "java/lang/invoke/MethodHandle" ∧ yNr_limit.cls ≠ "java/lang/invoke/VarHandle" ∧ (parseMethodDescriptor yNr_limit.desc).map (fun d => d.parameters.length) = some 1 := by decide +kernel
theorem ki_Nr_limit : Cond.instanceMethod yNr_limit ∈ gW := gm 223 (by decide +kernel) (by decide +kernel)
theorem ke_Nr_limit : Cond.selects "NurseryRow" yNr_limit yNr_limit ∈ gW := gm 224 (by decide +kernel) (by decide +kernel)
abbrev cLw_make : ByteArray := method_5_code
def yLw_make : MethodName := ⟨"NurseryRowLaw", "make", "(LNurseryRow;II[J)I"⟩
theorem k_Lw_make : Cond.codeWith yLw_make cLw_make 5 (some .int) [(0, 10, 13, 13)] ∈ gW := gm 229 (by decide +kernel) (by decide +kernel)
theorem n_Lw_make : yLw_make.cls = "NurseryRowLaw" ∧ yLw_make.cls ≠ "java/lang/invoke/MethodHandle" ∧ yLw_make.cls ≠ "java/lang/invoke/VarHandle" ∧ (parseMethodDescriptor yLw_make.desc).map (fun d => d.parameters.length) = some 4 := by decide +kernel
theorem kt_Lw_make : Cond.static yLw_make ∈ gW := gm 228 (by decide +kernel) (by decide +kernel)
abbrev cNr_make : ByteArray := prog_1_method_4_code
def yNr_make : MethodName := ⟨"NurseryRow", "make", "(II)I"⟩
theorem k_Nr_make : Cond.code yNr_make cNr_make 5 (some .int) ∈ gW := gm 233 (by decide +kernel) (by decide +kernel)
theorem n_Nr_make : yNr_make.cls = "NurseryRow" ∧ yNr_make.cls ≠ "java/lang/invoke/MethodHandle" ∧ yNr_make.cls ≠ "java/lang/invoke/VarHandle" ∧ (parseMethodDescriptor yNr_make.desc).map (fun d => d.parameters.length) = some 2 := by decide +kernel
theorem ki_Nr_make : Cond.instanceMethod yNr_make ∈ gW := gm 231 (by decide +kernel) (by decide +kernel)
theorem ke_Nr_make : Cond.selects "NurseryRow" yNr_make yNr_make ∈ gW := gm 232 (by decide +kernel) (by decide +kernel)
abbrev cPt_free : ByteArray := prog_2_method_4_code
def yPt_free : MethodName := ⟨"NurseryRow$Part", "free", "()I"⟩
theorem k_Pt_free : Cond.code yPt_free cPt_free 1 (some .int) ∈ gW := gm 238 (by decide +kernel) (by decide +kernel)
theorem n_Pt_free : yPt_free.cls = "NurseryRow$Part" ∧ yPt_free.cls ≠ "java/lang/invoke/MethodHandle" ∧ yPt_free.cls ≠ "java/lang/invoke/VarHandle" ∧ (parseMethodDescriptor yPt_free.desc).map (fun d => d.parameters.length) = some 0 := by decide +kernel
theorem ki_Pt_free : Cond.instanceMethod yPt_free ∈ gW := gm 236 (by decide +kernel) (by decide +kernel)
theorem ke_Pt_free : Cond.selects "NurseryRow$Part" yPt_free yPt_free ∈ gW := gm 237 (by decide +kernel) (by decide +kernel)
abbrev cPt_take : ByteArray := prog_2_method_7_code
def yPt_take : MethodName := ⟨"NurseryRow$Part", "take", "(I)I"⟩
theorem k_Pt_take : Cond.code yPt_take cPt_take 3 (some .int) ∈ gW := gm 242 (by decide +kernel) (by decide +kernel)
theorem n_Pt_take : yPt_take.cls = "NurseryRow$Part" ∧ yPt_take.cls ≠ "java/lang/invoke/MethodHandle" ∧ yPt_take.cls ≠ "java/lang/invoke/VarHandle" ∧ (parseMethodDescriptor yPt_take.desc).map (fun d => d.parameters.length) = some 1 := by decide +kernel
theorem ki_Pt_take : Cond.instanceMethod yPt_take ∈ gW := gm 240 (by decide +kernel) (by decide +kernel)
theorem ke_Pt_take : Cond.selects "NurseryRow$Part" yPt_take yPt_take ∈ gW := gm 241 (by decide +kernel) (by decide +kernel)
abbrev cPt_end : ByteArray := prog_2_method_5_code
def yPt_end : MethodName := ⟨"NurseryRow$Part", "end", "()I"⟩
theorem k_Pt_end : Cond.code yPt_end cPt_end 1 (some .int) ∈ gW := gm 246 (by decide +kernel) (by decide +kernel)
theorem n_Pt_end : yPt_end.cls = "NurseryRow$Part" ∧ yPt_end.cls ≠ "java/lang/invoke/MethodHandle" ∧ yPt_end.cls ≠ "java/lang/invoke/VarHandle" ∧ (parseMethodDescriptor yPt_end.desc).map (fun d => d.parameters.length) = some 0 := by decide +kernel
theorem ki_Pt_end : Cond.instanceMethod yPt_end ∈ gW := gm 244 (by decide +kernel) (by decide +kernel)
theorem ke_Pt_end : Cond.selects "NurseryRow$Part" yPt_end yPt_end ∈ gW := gm 245 (by decide +kernel) (by decide +kernel)
abbrev cAr_fill4 : ByteArray := prog_19_method_104_code
def yAr_fill4 : MethodName := ⟨"java/util/Arrays", "fill", "([IIII)V"⟩
theorem k_Ar_fill4 : Cond.code yAr_fill4 cAr_fill4 5 (none : Option Jvm.ClassFile.FieldType) ∈ gW := gm 249 (by decide +kernel) (by decide +kernel)
theorem n_Ar_fill4 : yAr_fill4.cls = "java/util/Arrays" ∧ yAr_fill4.cls ≠ "java/lang/invoke/MethodHandle" ∧ yAr_fill4.cls ≠ "java/lang/invoke/VarHandle" ∧ (parseMethodDescriptor yAr_fill4.desc).map (fun d => d.parameters.length) = some 4 := by decide +kernel
theorem kt_Ar_fill4 : Cond.static yAr_fill4 ∈ gW := gm 248 (by decide +kernel) (by decide +kernel)
abbrev cAr_rangeCheck : ByteArray := prog_19_method_30_code
def yAr_rangeCheck : MethodName := ⟨"java/util/Arrays", "rangeCheck", "(III)V"⟩
theorem k_Ar_rangeCheck : Cond.code yAr_rangeCheck cAr_rangeCheck 3 (none : Option Jvm.ClassFile.FieldType) ∈ gW := gm 252 (by decide +kernel) (by decide +kernel)
theorem n_Ar_rangeCheck : yAr_rangeCheck.cls = "java/util/Arrays" ∧ yAr_rangeCheck.cls ≠ "java/lang/invoke/MethodHandle" ∧ yAr_rangeCheck.cls ≠ "java/lang/invoke/VarHandle" ∧ (parseMethodDescriptor yAr_rangeCheck.desc).map (fun d => d.parameters.length) = some 3 := by decide +kernel
theorem kt_Ar_rangeCheck : Cond.static yAr_rangeCheck ∈ gW := gm 251 (by decide +kernel) (by decide +kernel)
abbrev cLw_set : ByteArray := method_6_code
def yLw_set : MethodName := ⟨"NurseryRowLaw", "set", "(LNurseryRow;III[J)I"⟩
theorem k_Lw_set : Cond.codeWith yLw_set cLw_set 6 (some .int) [(0, 12, 15, 26)] ∈ gW := gm 497 (by decide +kernel) (by decide +kernel)
theorem n_Lw_set : yLw_set.cls = "NurseryRowLaw" ∧ yLw_set.cls ≠ "java/lang/invoke/MethodHandle" ∧ yLw_set.cls ≠ "java/lang/invoke/VarHandle" ∧ (parseMethodDescriptor yLw_set.desc).map (fun d => d.parameters.length) = some 5 := by decide +kernel
theorem kt_Lw_set : Cond.static yLw_set ∈ gW := gm 496 (by decide +kernel) (by decide +kernel)
abbrev cNr_set : ByteArray := prog_1_method_5_code
def yNr_set : MethodName := ⟨"NurseryRow", "set", "(III)I"⟩
theorem k_Nr_set : Cond.code yNr_set cNr_set 5 (some .int) ∈ gW := gm 502 (by decide +kernel) (by decide +kernel)
theorem n_Nr_set : yNr_set.cls = "NurseryRow" ∧ yNr_set.cls ≠ "java/lang/invoke/MethodHandle" ∧ yNr_set.cls ≠ "java/lang/invoke/VarHandle" ∧ (parseMethodDescriptor yNr_set.desc).map (fun d => d.parameters.length) = some 3 := by decide +kernel
theorem ki_Nr_set : Cond.instanceMethod yNr_set ∈ gW := gm 500 (by decide +kernel) (by decide +kernel)
theorem ke_Nr_set : Cond.selects "NurseryRow" yNr_set yNr_set ∈ gW := gm 501 (by decide +kernel) (by decide +kernel)
abbrev cNr_fieldCell : ByteArray := prog_1_method_25_code
def yNr_fieldCell : MethodName := ⟨"NurseryRow", "fieldCell", "(II)I"⟩
theorem k_Nr_fieldCell : Cond.code yNr_fieldCell cNr_fieldCell 3 (some .int) ∈ gW := gm 506 (by decide +kernel) (by decide +kernel)
theorem n_Nr_fieldCell : yNr_fieldCell.cls = "NurseryRow" ∧ yNr_fieldCell.cls ≠ "java/lang/invoke/MethodHandle" ∧ yNr_fieldCell.cls ≠ "java/lang/invoke/VarHandle" ∧ (parseMethodDescriptor yNr_fieldCell.desc).map (fun d => d.parameters.length) = some 2 := by decide +kernel
theorem ki_Nr_fieldCell : Cond.instanceMethod yNr_fieldCell ∈ gW := gm 505 (by decide +kernel) (by decide +kernel)
theorem ke_Nr_fieldCell : Cond.selects "NurseryRow" yNr_fieldCell yNr_fieldCell ∈ gW := gm 4 (by decide +kernel) (by decide +kernel)
abbrev cNr_isObject : ByteArray := prog_1_method_21_code
def yNr_isObject : MethodName := ⟨"NurseryRow", "isObject", "(I)Z"⟩
theorem k_Nr_isObject : Cond.code yNr_isObject cNr_isObject 5 (some .boolean) ∈ gW := gm 510 (by decide +kernel) (by decide +kernel)
theorem n_Nr_isObject : yNr_isObject.cls = "NurseryRow" ∧ yNr_isObject.cls ≠ "java/lang/invoke/MethodHandle" ∧ yNr_isObject.cls ≠ "java/lang/invoke/VarHandle" ∧ (parseMethodDescriptor yNr_isObject.desc).map (fun d => d.parameters.length) = some 1 := by decide +kernel
theorem ki_Nr_isObject : Cond.instanceMethod yNr_isObject ∈ gW := gm 509 (by decide +kernel) (by decide +kernel)
theorem ke_Nr_isObject : Cond.selects "NurseryRow" yNr_isObject yNr_isObject ∈ gW := gm 5 (by decide +kernel) (by decide +kernel)
abbrev cNr_partOf : ByteArray := prog_1_method_22_code
def yNr_partOf : MethodName := ⟨"NurseryRow", "partOf", "(I)I"⟩
theorem k_Nr_partOf : Cond.code yNr_partOf cNr_partOf 3 (some .int) ∈ gW := gm 514 (by decide +kernel) (by decide +kernel)
theorem n_Nr_partOf : yNr_partOf.cls = "NurseryRow" ∧ yNr_partOf.cls ≠ "java/lang/invoke/MethodHandle" ∧ yNr_partOf.cls ≠ "java/lang/invoke/VarHandle" ∧ (parseMethodDescriptor yNr_partOf.desc).map (fun d => d.parameters.length) = some 1 := by decide +kernel
theorem ki_Nr_partOf : Cond.instanceMethod yNr_partOf ∈ gW := gm 513 (by decide +kernel) (by decide +kernel)
theorem ke_Nr_partOf : Cond.selects "NurseryRow" yNr_partOf yNr_partOf ∈ gW := gm 6 (by decide +kernel) (by decide +kernel)
abbrev cPt_covers : ByteArray := prog_2_method_6_code
def yPt_covers : MethodName := ⟨"NurseryRow$Part", "covers", "(I)Z"⟩
theorem k_Pt_covers : Cond.code yPt_covers cPt_covers 2 (some .boolean) ∈ gW := gm 518 (by decide +kernel) (by decide +kernel)
theorem n_Pt_covers : yPt_covers.cls = "NurseryRow$Part" ∧ yPt_covers.cls ≠ "java/lang/invoke/MethodHandle" ∧ yPt_covers.cls ≠ "java/lang/invoke/VarHandle" ∧ (parseMethodDescriptor yPt_covers.desc).map (fun d => d.parameters.length) = some 1 := by decide +kernel
theorem ki_Pt_covers : Cond.instanceMethod yPt_covers ∈ gW := gm 516 (by decide +kernel) (by decide +kernel)
theorem ke_Pt_covers : Cond.selects "NurseryRow$Part" yPt_covers yPt_covers ∈ gW := gm 517 (by decide +kernel) (by decide +kernel)
abbrev cNr_sizeAt : ByteArray := prog_1_method_24_code
def yNr_sizeAt : MethodName := ⟨"NurseryRow", "sizeAt", "(I)I"⟩
theorem k_Nr_sizeAt : Cond.code yNr_sizeAt cNr_sizeAt 2 (some .int) ∈ gW := gm 522 (by decide +kernel) (by decide +kernel)
theorem n_Nr_sizeAt : yNr_sizeAt.cls = "NurseryRow" ∧ yNr_sizeAt.cls ≠ "java/lang/invoke/MethodHandle" ∧ yNr_sizeAt.cls ≠ "java/lang/invoke/VarHandle" ∧ (parseMethodDescriptor yNr_sizeAt.desc).map (fun d => d.parameters.length) = some 1 := by decide +kernel
theorem ki_Nr_sizeAt : Cond.instanceMethod yNr_sizeAt ∈ gW := gm 521 (by decide +kernel) (by decide +kernel)
theorem ke_Nr_sizeAt : Cond.selects "NurseryRow" yNr_sizeAt yNr_sizeAt ∈ gW := gm 7 (by decide +kernel) (by decide +kernel)
abbrev cNr_isNothingOrObject : ByteArray := prog_1_method_20_code
def yNr_isNothingOrObject : MethodName := ⟨"NurseryRow", "isNothingOrObject", "(I)Z"⟩
theorem k_Nr_isNothingOrObject : Cond.code yNr_isNothingOrObject cNr_isNothingOrObject 2 (some .boolean) ∈ gW := gm 526 (by decide +kernel) (by decide +kernel)
theorem n_Nr_isNothingOrObject : yNr_isNothingOrObject.cls = "NurseryRow" ∧ yNr_isNothingOrObject.cls ≠ "java/lang/invoke/MethodHandle" ∧ yNr_isNothingOrObject.cls ≠ "java/lang/invoke/VarHandle" ∧ (parseMethodDescriptor yNr_isNothingOrObject.desc).map (fun d => d.parameters.length) = some 1 := by decide +kernel
theorem ki_Nr_isNothingOrObject : Cond.instanceMethod yNr_isNothingOrObject ∈ gW := gm 525 (by decide +kernel) (by decide +kernel)
theorem ke_Nr_isNothingOrObject : Cond.selects "NurseryRow" yNr_isNothingOrObject yNr_isNothingOrObject ∈ gW := gm 8 (by decide +kernel) (by decide +kernel)
abbrev cNr_exchange : ByteArray := prog_1_method_27_code
def yNr_exchange : MethodName := ⟨"NurseryRow", "exchange", "(II)I"⟩
theorem k_Nr_exchange : Cond.code yNr_exchange cNr_exchange 4 (some .int) ∈ gW := gm 546 (by decide +kernel) (by decide +kernel)
theorem n_Nr_exchange : yNr_exchange.cls = "NurseryRow" ∧ yNr_exchange.cls ≠ "java/lang/invoke/MethodHandle" ∧ yNr_exchange.cls ≠ "java/lang/invoke/VarHandle" ∧ (parseMethodDescriptor yNr_exchange.desc).map (fun d => d.parameters.length) = some 2 := by decide +kernel
theorem ki_Nr_exchange : Cond.instanceMethod yNr_exchange ∈ gW := gm 545 (by decide +kernel) (by decide +kernel)
theorem ke_Nr_exchange : Cond.selects "NurseryRow" yNr_exchange yNr_exchange ∈ gW := gm 9 (by decide +kernel) (by decide +kernel)
abbrev cLw_get : ByteArray := method_7_code
def yLw_get : MethodName := ⟨"NurseryRowLaw", "get", "(LNurseryRow;II[J)I"⟩
theorem k_Lw_get : Cond.codeWith yLw_get cLw_get 5 (some .int) [(0, 10, 13, 26)] ∈ gW := gm 549 (by decide +kernel) (by decide +kernel)
theorem n_Lw_get : yLw_get.cls = "NurseryRowLaw" ∧ yLw_get.cls ≠ "java/lang/invoke/MethodHandle" ∧ yLw_get.cls ≠ "java/lang/invoke/VarHandle" ∧ (parseMethodDescriptor yLw_get.desc).map (fun d => d.parameters.length) = some 4 := by decide +kernel
theorem kt_Lw_get : Cond.static yLw_get ∈ gW := gm 548 (by decide +kernel) (by decide +kernel)
abbrev cNr_get : ByteArray := prog_1_method_6_code
def yNr_get : MethodName := ⟨"NurseryRow", "get", "(II)I"⟩
theorem k_Nr_get : Cond.code yNr_get cNr_get 4 (some .int) ∈ gW := gm 553 (by decide +kernel) (by decide +kernel)
theorem n_Nr_get : yNr_get.cls = "NurseryRow" ∧ yNr_get.cls ≠ "java/lang/invoke/MethodHandle" ∧ yNr_get.cls ≠ "java/lang/invoke/VarHandle" ∧ (parseMethodDescriptor yNr_get.desc).map (fun d => d.parameters.length) = some 2 := by decide +kernel
theorem ki_Nr_get : Cond.instanceMethod yNr_get ∈ gW := gm 551 (by decide +kernel) (by decide +kernel)
theorem ke_Nr_get : Cond.selects "NurseryRow" yNr_get yNr_get ∈ gW := gm 552 (by decide +kernel) (by decide +kernel)
abbrev cLw_put : ByteArray := method_8_code
def yLw_put : MethodName := ⟨"NurseryRowLaw", "put", "(LNurseryRow;III[J)I"⟩
theorem k_Lw_put : Cond.codeWith yLw_put cLw_put 6 (some .int) [(0, 12, 15, 26)] ∈ gW := gm 556 (by decide +kernel) (by decide +kernel)
theorem n_Lw_put : yLw_put.cls = "NurseryRowLaw" ∧ yLw_put.cls ≠ "java/lang/invoke/MethodHandle" ∧ yLw_put.cls ≠ "java/lang/invoke/VarHandle" ∧ (parseMethodDescriptor yLw_put.desc).map (fun d => d.parameters.length) = some 5 := by decide +kernel
theorem kt_Lw_put : Cond.static yLw_put ∈ gW := gm 555 (by decide +kernel) (by decide +kernel)
abbrev cNr_put : ByteArray := prog_1_method_7_code
def yNr_put : MethodName := ⟨"NurseryRow", "put", "(III)I"⟩
theorem k_Nr_put : Cond.code yNr_put cNr_put 5 (some .int) ∈ gW := gm 560 (by decide +kernel) (by decide +kernel)
theorem n_Nr_put : yNr_put.cls = "NurseryRow" ∧ yNr_put.cls ≠ "java/lang/invoke/MethodHandle" ∧ yNr_put.cls ≠ "java/lang/invoke/VarHandle" ∧ (parseMethodDescriptor yNr_put.desc).map (fun d => d.parameters.length) = some 3 := by decide +kernel
theorem ki_Nr_put : Cond.instanceMethod yNr_put ∈ gW := gm 558 (by decide +kernel) (by decide +kernel)
theorem ke_Nr_put : Cond.selects "NurseryRow" yNr_put yNr_put ∈ gW := gm 559 (by decide +kernel) (by decide +kernel)
abbrev cNr_wordCell : ByteArray := prog_1_method_26_code
def yNr_wordCell : MethodName := ⟨"NurseryRow", "wordCell", "(II)I"⟩
theorem k_Nr_wordCell : Cond.code yNr_wordCell cNr_wordCell 3 (some .int) ∈ gW := gm 564 (by decide +kernel) (by decide +kernel)
theorem n_Nr_wordCell : yNr_wordCell.cls = "NurseryRow" ∧ yNr_wordCell.cls ≠ "java/lang/invoke/MethodHandle" ∧ yNr_wordCell.cls ≠ "java/lang/invoke/VarHandle" ∧ (parseMethodDescriptor yNr_wordCell.desc).map (fun d => d.parameters.length) = some 2 := by decide +kernel
theorem ki_Nr_wordCell : Cond.instanceMethod yNr_wordCell ∈ gW := gm 563 (by decide +kernel) (by decide +kernel)
theorem ke_Nr_wordCell : Cond.selects "NurseryRow" yNr_wordCell yNr_wordCell ∈ gW := gm 10 (by decide +kernel) (by decide +kernel)
abbrev cLw_word : ByteArray := method_9_code
def yLw_word : MethodName := ⟨"NurseryRowLaw", "word", "(LNurseryRow;II[J)I"⟩
theorem k_Lw_word : Cond.codeWith yLw_word cLw_word 5 (some .int) [(0, 10, 13, 26)] ∈ gW := gm 568 (by decide +kernel) (by decide +kernel)
theorem n_Lw_word : yLw_word.cls = "NurseryRowLaw" ∧ yLw_word.cls ≠ "java/lang/invoke/MethodHandle" ∧ yLw_word.cls ≠ "java/lang/invoke/VarHandle" ∧ (parseMethodDescriptor yLw_word.desc).map (fun d => d.parameters.length) = some 4 := by decide +kernel
theorem kt_Lw_word : Cond.static yLw_word ∈ gW := gm 567 (by decide +kernel) (by decide +kernel)
abbrev cNr_word : ByteArray := prog_1_method_8_code
def yNr_word : MethodName := ⟨"NurseryRow", "word", "(II)I"⟩
theorem k_Nr_word : Cond.code yNr_word cNr_word 4 (some .int) ∈ gW := gm 572 (by decide +kernel) (by decide +kernel)
theorem n_Nr_word : yNr_word.cls = "NurseryRow" ∧ yNr_word.cls ≠ "java/lang/invoke/MethodHandle" ∧ yNr_word.cls ≠ "java/lang/invoke/VarHandle" ∧ (parseMethodDescriptor yNr_word.desc).map (fun d => d.parameters.length) = some 2 := by decide +kernel
theorem ki_Nr_word : Cond.instanceMethod yNr_word ∈ gW := gm 570 (by decide +kernel) (by decide +kernel)
theorem ke_Nr_word : Cond.selects "NurseryRow" yNr_word yNr_word ∈ gW := gm 571 (by decide +kernel) (by decide +kernel)
abbrev cLw_root : ByteArray := method_10_code
def yLw_root : MethodName := ⟨"NurseryRowLaw", "root", "(LNurseryRow;II[J)I"⟩
theorem k_Lw_root : Cond.codeWith yLw_root cLw_root 5 (some .int) [(0, 10, 13, 26)] ∈ gW := gm 575 (by decide +kernel) (by decide +kernel)
theorem n_Lw_root : yLw_root.cls = "NurseryRowLaw" ∧ yLw_root.cls ≠ "java/lang/invoke/MethodHandle" ∧ yLw_root.cls ≠ "java/lang/invoke/VarHandle" ∧ (parseMethodDescriptor yLw_root.desc).map (fun d => d.parameters.length) = some 4 := by decide +kernel
theorem kt_Lw_root : Cond.static yLw_root ∈ gW := gm 574 (by decide +kernel) (by decide +kernel)
abbrev cNr_root : ByteArray := prog_1_method_9_code
def yNr_root : MethodName := ⟨"NurseryRow", "root", "(II)I"⟩
theorem k_Nr_root : Cond.code yNr_root cNr_root 4 (some .int) ∈ gW := gm 579 (by decide +kernel) (by decide +kernel)
theorem n_Nr_root : yNr_root.cls = "NurseryRow" ∧ yNr_root.cls ≠ "java/lang/invoke/MethodHandle" ∧ yNr_root.cls ≠ "java/lang/invoke/VarHandle" ∧ (parseMethodDescriptor yNr_root.desc).map (fun d => d.parameters.length) = some 2 := by decide +kernel
theorem ki_Nr_root : Cond.instanceMethod yNr_root ∈ gW := gm 577 (by decide +kernel) (by decide +kernel)
theorem ke_Nr_root : Cond.selects "NurseryRow" yNr_root yNr_root ∈ gW := gm 578 (by decide +kernel) (by decide +kernel)
abbrev cNr_isRoot : ByteArray := prog_1_method_19_code
def yNr_isRoot : MethodName := ⟨"NurseryRow", "isRoot", "(I)Z"⟩
theorem k_Nr_isRoot : Cond.code yNr_isRoot cNr_isRoot 1 (some .boolean) ∈ gW := gm 582 (by decide +kernel) (by decide +kernel)
theorem n_Nr_isRoot : yNr_isRoot.cls = "NurseryRow" ∧ yNr_isRoot.cls ≠ "java/lang/invoke/MethodHandle" ∧ yNr_isRoot.cls ≠ "java/lang/invoke/VarHandle" ∧ (parseMethodDescriptor yNr_isRoot.desc).map (fun d => d.parameters.length) = some 1 := by decide +kernel
theorem kt_Nr_isRoot : Cond.static yNr_isRoot ∈ gW := gm 581 (by decide +kernel) (by decide +kernel)
abbrev cLw_rooted : ByteArray := method_11_code
def yLw_rooted : MethodName := ⟨"NurseryRowLaw", "rooted", "(LNurseryRow;I[J)I"⟩
theorem k_Lw_rooted : Cond.codeWith yLw_rooted cLw_rooted 4 (some .int) [(0, 9, 12, 26)] ∈ gW := gm 586 (by decide +kernel) (by decide +kernel)
theorem n_Lw_rooted : yLw_rooted.cls = "NurseryRowLaw" ∧ yLw_rooted.cls ≠ "java/lang/invoke/MethodHandle" ∧ yLw_rooted.cls ≠ "java/lang/invoke/VarHandle" ∧ (parseMethodDescriptor yLw_rooted.desc).map (fun d => d.parameters.length) = some 3 := by decide +kernel
theorem kt_Lw_rooted : Cond.static yLw_rooted ∈ gW := gm 585 (by decide +kernel) (by decide +kernel)
abbrev cNr_rooted : ByteArray := prog_1_method_10_code
def yNr_rooted : MethodName := ⟨"NurseryRow", "rooted", "(I)I"⟩
theorem k_Nr_rooted : Cond.code yNr_rooted cNr_rooted 2 (some .int) ∈ gW := gm 590 (by decide +kernel) (by decide +kernel)
theorem n_Nr_rooted : yNr_rooted.cls = "NurseryRow" ∧ yNr_rooted.cls ≠ "java/lang/invoke/MethodHandle" ∧ yNr_rooted.cls ≠ "java/lang/invoke/VarHandle" ∧ (parseMethodDescriptor yNr_rooted.desc).map (fun d => d.parameters.length) = some 1 := by decide +kernel
theorem ki_Nr_rooted : Cond.instanceMethod yNr_rooted ∈ gW := gm 588 (by decide +kernel) (by decide +kernel)
theorem ke_Nr_rooted : Cond.selects "NurseryRow" yNr_rooted yNr_rooted ∈ gW := gm 589 (by decide +kernel) (by decide +kernel)
abbrev cLw_collect : ByteArray := method_12_code
def yLw_collect : MethodName := ⟨"NurseryRowLaw", "collect", "(LNurseryRow;[J)I"⟩
theorem k_Lw_collect : Cond.codeWith yLw_collect cLw_collect 3 (some .int) [(0, 8, 11, 47)] ∈ gW := gm 594 (by decide +kernel) (by decide +kernel)
theorem n_Lw_collect : yLw_collect.cls = "NurseryRowLaw" ∧ yLw_collect.cls ≠ "java/lang/invoke/MethodHandle" ∧ yLw_collect.cls ≠ "java/lang/invoke/VarHandle" ∧ (parseMethodDescriptor yLw_collect.desc).map (fun d => d.parameters.length) = some 2 := by decide +kernel
theorem kt_Lw_collect : Cond.static yLw_collect ∈ gW := gm 593 (by decide +kernel) (by decide +kernel)
abbrev cNr_collect : ByteArray := prog_1_method_11_code
def yNr_collect : MethodName := ⟨"NurseryRow", "collect", "()I"⟩
theorem k_Nr_collect : Cond.code yNr_collect cNr_collect 4 (some .int) ∈ gW := gm 599 (by decide +kernel) (by decide +kernel)
theorem n_Nr_collect : yNr_collect.cls = "NurseryRow" ∧ yNr_collect.cls ≠ "java/lang/invoke/MethodHandle" ∧ yNr_collect.cls ≠ "java/lang/invoke/VarHandle" ∧ (parseMethodDescriptor yNr_collect.desc).map (fun d => d.parameters.length) = some 0 := by decide +kernel
theorem ki_Nr_collect : Cond.instanceMethod yNr_collect ∈ gW := gm 597 (by decide +kernel) (by decide +kernel)
theorem ke_Nr_collect : Cond.selects "NurseryRow" yNr_collect yNr_collect ∈ gW := gm 598 (by decide +kernel) (by decide +kernel)
abbrev cNr_followRoots : ByteArray := prog_1_method_28_code
def yNr_followRoots : MethodName := ⟨"NurseryRow", "followRoots", "()V"⟩
theorem k_Nr_followRoots : Cond.code yNr_followRoots cNr_followRoots 2 (none : Option Jvm.ClassFile.FieldType) ∈ gW := gm 619 (by decide +kernel) (by decide +kernel)
theorem n_Nr_followRoots : yNr_followRoots.cls = "NurseryRow" ∧ yNr_followRoots.cls ≠ "java/lang/invoke/MethodHandle" ∧ yNr_followRoots.cls ≠ "java/lang/invoke/VarHandle" ∧ (parseMethodDescriptor yNr_followRoots.desc).map (fun d => d.parameters.length) = some 0 := by decide +kernel
theorem ki_Nr_followRoots : Cond.instanceMethod yNr_followRoots ∈ gW := gm 618 (by decide +kernel) (by decide +kernel)
theorem ke_Nr_followRoots : Cond.selects "NurseryRow" yNr_followRoots yNr_followRoots ∈ gW := gm 11 (by decide +kernel) (by decide +kernel)
abbrev cNr_follow : ByteArray := prog_1_method_32_code
def yNr_follow : MethodName := ⟨"NurseryRow", "follow", "(I)I"⟩
theorem k_Nr_follow : Cond.code yNr_follow cNr_follow 2 (some .int) ∈ gW := gm 623 (by decide +kernel) (by decide +kernel)
theorem n_Nr_follow : yNr_follow.cls = "NurseryRow" ∧ yNr_follow.cls ≠ "java/lang/invoke/MethodHandle" ∧ yNr_follow.cls ≠ "java/lang/invoke/VarHandle" ∧ (parseMethodDescriptor yNr_follow.desc).map (fun d => d.parameters.length) = some 1 := by decide +kernel
theorem ki_Nr_follow : Cond.instanceMethod yNr_follow ∈ gW := gm 622 (by decide +kernel) (by decide +kernel)
theorem ke_Nr_follow : Cond.selects "NurseryRow" yNr_follow yNr_follow ∈ gW := gm 12 (by decide +kernel) (by decide +kernel)
abbrev cNr_isYoung : ByteArray := prog_1_method_33_code
def yNr_isYoung : MethodName := ⟨"NurseryRow", "isYoung", "(I)Z"⟩
theorem k_Nr_isYoung : Cond.code yNr_isYoung cNr_isYoung 2 (some .boolean) ∈ gW := gm 627 (by decide +kernel) (by decide +kernel)
theorem n_Nr_isYoung : yNr_isYoung.cls = "NurseryRow" ∧ yNr_isYoung.cls ≠ "java/lang/invoke/MethodHandle" ∧ yNr_isYoung.cls ≠ "java/lang/invoke/VarHandle" ∧ (parseMethodDescriptor yNr_isYoung.desc).map (fun d => d.parameters.length) = some 1 := by decide +kernel
theorem ki_Nr_isYoung : Cond.instanceMethod yNr_isYoung ∈ gW := gm 626 (by decide +kernel) (by decide +kernel)
theorem ke_Nr_isYoung : Cond.selects "NurseryRow" yNr_isYoung yNr_isYoung ∈ gW := gm 13 (by decide +kernel) (by decide +kernel)
abbrev cNr_copyOf : ByteArray := prog_1_method_34_code
def yNr_copyOf : MethodName := ⟨"NurseryRow", "copyOf", "(I)I"⟩
theorem k_Nr_copyOf : Cond.code yNr_copyOf cNr_copyOf 6 (some .int) ∈ gW := gm 631 (by decide +kernel) (by decide +kernel)
theorem n_Nr_copyOf : yNr_copyOf.cls = "NurseryRow" ∧ yNr_copyOf.cls ≠ "java/lang/invoke/MethodHandle" ∧ yNr_copyOf.cls ≠ "java/lang/invoke/VarHandle" ∧ (parseMethodDescriptor yNr_copyOf.desc).map (fun d => d.parameters.length) = some 1 := by decide +kernel
theorem ki_Nr_copyOf : Cond.instanceMethod yNr_copyOf ∈ gW := gm 630 (by decide +kernel) (by decide +kernel)
theorem ke_Nr_copyOf : Cond.selects "NurseryRow" yNr_copyOf yNr_copyOf ∈ gW := gm 14 (by decide +kernel) (by decide +kernel)
abbrev cNr_noteCopy : ByteArray := prog_1_method_35_code
def yNr_noteCopy : MethodName := ⟨"NurseryRow", "noteCopy", "(I)V"⟩
theorem k_Nr_noteCopy : Cond.code yNr_noteCopy cNr_noteCopy 2 (none : Option Jvm.ClassFile.FieldType) ∈ gW := gm 636 (by decide +kernel) (by decide +kernel)
theorem n_Nr_noteCopy : yNr_noteCopy.cls = "NurseryRow" ∧ yNr_noteCopy.cls ≠ "java/lang/invoke/MethodHandle" ∧ yNr_noteCopy.cls ≠ "java/lang/invoke/VarHandle" ∧ (parseMethodDescriptor yNr_noteCopy.desc).map (fun d => d.parameters.length) = some 1 := by decide +kernel
theorem ki_Nr_noteCopy : Cond.instanceMethod yNr_noteCopy ∈ gW := gm 635 (by decide +kernel) (by decide +kernel)
theorem ke_Nr_noteCopy : Cond.selects "NurseryRow" yNr_noteCopy yNr_noteCopy ∈ gW := gm 15 (by decide +kernel) (by decide +kernel)
abbrev cNr_followOld : ByteArray := prog_1_method_29_code
def yNr_followOld : MethodName := ⟨"NurseryRow", "followOld", "(I)V"⟩
theorem k_Nr_followOld : Cond.code yNr_followOld cNr_followOld 4 (none : Option Jvm.ClassFile.FieldType) ∈ gW := gm 640 (by decide +kernel) (by decide +kernel)
theorem n_Nr_followOld : yNr_followOld.cls = "NurseryRow" ∧ yNr_followOld.cls ≠ "java/lang/invoke/MethodHandle" ∧ yNr_followOld.cls ≠ "java/lang/invoke/VarHandle" ∧ (parseMethodDescriptor yNr_followOld.desc).map (fun d => d.parameters.length) = some 1 := by decide +kernel
theorem ki_Nr_followOld : Cond.instanceMethod yNr_followOld ∈ gW := gm 639 (by decide +kernel) (by decide +kernel)
theorem ke_Nr_followOld : Cond.selects "NurseryRow" yNr_followOld yNr_followOld ∈ gW := gm 16 (by decide +kernel) (by decide +kernel)
abbrev cNr_followFields : ByteArray := prog_1_method_31_code
def yNr_followFields : MethodName := ⟨"NurseryRow", "followFields", "(I)V"⟩
theorem k_Nr_followFields : Cond.code yNr_followFields cNr_followFields 4 (none : Option Jvm.ClassFile.FieldType) ∈ gW := gm 644 (by decide +kernel) (by decide +kernel)
theorem n_Nr_followFields : yNr_followFields.cls = "NurseryRow" ∧ yNr_followFields.cls ≠ "java/lang/invoke/MethodHandle" ∧ yNr_followFields.cls ≠ "java/lang/invoke/VarHandle" ∧ (parseMethodDescriptor yNr_followFields.desc).map (fun d => d.parameters.length) = some 1 := by decide +kernel
theorem ki_Nr_followFields : Cond.instanceMethod yNr_followFields ∈ gW := gm 643 (by decide +kernel) (by decide +kernel)
theorem ke_Nr_followFields : Cond.selects "NurseryRow" yNr_followFields yNr_followFields ∈ gW := gm 17 (by decide +kernel) (by decide +kernel)
abbrev cNr_followCopies : ByteArray := prog_1_method_30_code
def yNr_followCopies : MethodName := ⟨"NurseryRow", "followCopies", "()V"⟩
theorem k_Nr_followCopies : Cond.code yNr_followCopies cNr_followCopies 2 (none : Option Jvm.ClassFile.FieldType) ∈ gW := gm 648 (by decide +kernel) (by decide +kernel)
theorem n_Nr_followCopies : yNr_followCopies.cls = "NurseryRow" ∧ yNr_followCopies.cls ≠ "java/lang/invoke/MethodHandle" ∧ yNr_followCopies.cls ≠ "java/lang/invoke/VarHandle" ∧ (parseMethodDescriptor yNr_followCopies.desc).map (fun d => d.parameters.length) = some 0 := by decide +kernel
theorem ki_Nr_followCopies : Cond.instanceMethod yNr_followCopies ∈ gW := gm 647 (by decide +kernel) (by decide +kernel)
theorem ke_Nr_followCopies : Cond.selects "NurseryRow" yNr_followCopies yNr_followCopies ∈ gW := gm 18 (by decide +kernel) (by decide +kernel)
abbrev cLw_about : ByteArray := method_13_code
def yLw_about : MethodName := ⟨"NurseryRowLaw", "about", "(LNurseryRow;II[J)I"⟩
theorem k_Lw_about : Cond.codeWith yLw_about cLw_about 5 (some .int) [(0, 10, 13, 26), (0, 10, 17, 13)] ∈ gW := gm 652 (by decide +kernel) (by decide +kernel)
theorem n_Lw_about : yLw_about.cls = "NurseryRowLaw" ∧ yLw_about.cls ≠ "java/lang/invoke/MethodHandle" ∧ yLw_about.cls ≠ "java/lang/invoke/VarHandle" ∧ (parseMethodDescriptor yLw_about.desc).map (fun d => d.parameters.length) = some 4 := by decide +kernel
theorem kt_Lw_about : Cond.static yLw_about ∈ gW := gm 651 (by decide +kernel) (by decide +kernel)
abbrev cNr_about : ByteArray := prog_1_method_12_code
def yNr_about : MethodName := ⟨"NurseryRow", "about", "(II)I"⟩
theorem k_Nr_about : Cond.code yNr_about cNr_about 3 (some .int) ∈ gW := gm 656 (by decide +kernel) (by decide +kernel)
theorem n_Nr_about : yNr_about.cls = "NurseryRow" ∧ yNr_about.cls ≠ "java/lang/invoke/MethodHandle" ∧ yNr_about.cls ≠ "java/lang/invoke/VarHandle" ∧ (parseMethodDescriptor yNr_about.desc).map (fun d => d.parameters.length) = some 2 := by decide +kernel
theorem ki_Nr_about : Cond.instanceMethod yNr_about ∈ gW := gm 654 (by decide +kernel) (by decide +kernel)
theorem ke_Nr_about : Cond.selects "NurseryRow" yNr_about yNr_about ∈ gW := gm 655 (by decide +kernel) (by decide +kernel)
abbrev cLw_next : ByteArray := method_14_code
def yLw_next : MethodName := ⟨"NurseryRowLaw", "next", "(LNurseryRow;I[J)I"⟩
theorem k_Lw_next : Cond.codeWith yLw_next cLw_next 4 (some .int) [(0, 9, 12, 26)] ∈ gW := gm 660 (by decide +kernel) (by decide +kernel)
theorem n_Lw_next : yLw_next.cls = "NurseryRowLaw" ∧ yLw_next.cls ≠ "java/lang/invoke/MethodHandle" ∧ yLw_next.cls ≠ "java/lang/invoke/VarHandle" ∧ (parseMethodDescriptor yLw_next.desc).map (fun d => d.parameters.length) = some 3 := by decide +kernel
theorem kt_Lw_next : Cond.static yLw_next ∈ gW := gm 659 (by decide +kernel) (by decide +kernel)
abbrev cNr_next : ByteArray := prog_1_method_13_code
def yNr_next : MethodName := ⟨"NurseryRow", "next", "(I)I"⟩
theorem k_Nr_next : Cond.code yNr_next cNr_next 4 (some .int) ∈ gW := gm 664 (by decide +kernel) (by decide +kernel)
theorem n_Nr_next : yNr_next.cls = "NurseryRow" ∧ yNr_next.cls ≠ "java/lang/invoke/MethodHandle" ∧ yNr_next.cls ≠ "java/lang/invoke/VarHandle" ∧ (parseMethodDescriptor yNr_next.desc).map (fun d => d.parameters.length) = some 1 := by decide +kernel
theorem ki_Nr_next : Cond.instanceMethod yNr_next ∈ gW := gm 662 (by decide +kernel) (by decide +kernel)
theorem ke_Nr_next : Cond.selects "NurseryRow" yNr_next yNr_next ∈ gW := gm 663 (by decide +kernel) (by decide +kernel)
abbrev cNr_firstFrom : ByteArray := prog_1_method_23_code
def yNr_firstFrom : MethodName := ⟨"NurseryRow", "firstFrom", "(I)I"⟩
theorem k_Nr_firstFrom : Cond.code yNr_firstFrom cNr_firstFrom 3 (some .int) ∈ gW := gm 668 (by decide +kernel) (by decide +kernel)
theorem n_Nr_firstFrom : yNr_firstFrom.cls = "NurseryRow" ∧ yNr_firstFrom.cls ≠ "java/lang/invoke/MethodHandle" ∧ yNr_firstFrom.cls ≠ "java/lang/invoke/VarHandle" ∧ (parseMethodDescriptor yNr_firstFrom.desc).map (fun d => d.parameters.length) = some 1 := by decide +kernel
theorem ki_Nr_firstFrom : Cond.instanceMethod yNr_firstFrom ∈ gW := gm 667 (by decide +kernel) (by decide +kernel)
theorem ke_Nr_firstFrom : Cond.selects "NurseryRow" yNr_firstFrom yNr_firstFrom ∈ gW := gm 19 (by decide +kernel) (by decide +kernel)
abbrev cLw_count : ByteArray := method_15_code
def yLw_count : MethodName := ⟨"NurseryRowLaw", "count", "(LNurseryRow;I[J)I"⟩
theorem k_Lw_count : Cond.codeWith yLw_count cLw_count 4 (some .int) [(0, 9, 12, 13)] ∈ gW := gm 671 (by decide +kernel) (by decide +kernel)
theorem n_Lw_count : yLw_count.cls = "NurseryRowLaw" ∧ yLw_count.cls ≠ "java/lang/invoke/MethodHandle" ∧ yLw_count.cls ≠ "java/lang/invoke/VarHandle" ∧ (parseMethodDescriptor yLw_count.desc).map (fun d => d.parameters.length) = some 3 := by decide +kernel
theorem kt_Lw_count : Cond.static yLw_count ∈ gW := gm 670 (by decide +kernel) (by decide +kernel)
abbrev cNr_count : ByteArray := prog_1_method_14_code
def yNr_count : MethodName := ⟨"NurseryRow", "count", "(I)I"⟩
theorem k_Nr_count : Cond.code yNr_count cNr_count 2 (some .int) ∈ gW := gm 675 (by decide +kernel) (by decide +kernel)
theorem n_Nr_count : yNr_count.cls = "NurseryRow" ∧ yNr_count.cls ≠ "java/lang/invoke/MethodHandle" ∧ yNr_count.cls ≠ "java/lang/invoke/VarHandle" ∧ (parseMethodDescriptor yNr_count.desc).map (fun d => d.parameters.length) = some 1 := by decide +kernel
theorem ki_Nr_count : Cond.instanceMethod yNr_count ∈ gW := gm 673 (by decide +kernel) (by decide +kernel)
theorem ke_Nr_count : Cond.selects "NurseryRow" yNr_count yNr_count ∈ gW := gm 674 (by decide +kernel) (by decide +kernel)
abbrev cMd_init : ByteArray := prog_4_method_1_code
def yMd_init : MethodName := ⟨"NurseryRowModel", "<init>", "()V"⟩
theorem k_Md_init : Cond.code yMd_init cMd_init 1 (none : Option Jvm.ClassFile.FieldType) ∈ gW := gm 681 (by decide +kernel) (by decide +kernel)
theorem n_Md_init : yMd_init.cls = "NurseryRowModel" ∧ yMd_init.cls ≠ "java/lang/invoke/MethodHandle" ∧ yMd_init.cls ≠ "java/lang/invoke/VarHandle" ∧ (parseMethodDescriptor yMd_init.desc).map (fun d => d.parameters.length) = some 0 := by decide +kernel
theorem ki_Md_init : Cond.instanceMethod yMd_init ∈ gW := gm 680 (by decide +kernel) (by decide +kernel)
abbrev cMd_lay : ByteArray := prog_4_method_4_code
def yMd_lay : MethodName := ⟨"NurseryRowModel", "lay", "(III)V"⟩
theorem k_Md_lay : Cond.code yMd_lay cMd_lay 5 (none : Option Jvm.ClassFile.FieldType) ∈ gW := gm 686 (by decide +kernel) (by decide +kernel)
theorem n_Md_lay : yMd_lay.cls = "NurseryRowModel" ∧ yMd_lay.cls ≠ "java/lang/invoke/MethodHandle" ∧ yMd_lay.cls ≠ "java/lang/invoke/VarHandle" ∧ (parseMethodDescriptor yMd_lay.desc).map (fun d => d.parameters.length) = some 3 := by decide +kernel
theorem ki_Md_lay : Cond.instanceMethod yMd_lay ∈ gW := gm 685 (by decide +kernel) (by decide +kernel)
theorem ke_Md_lay : Cond.selects "NurseryRowModel" yMd_lay yMd_lay ∈ gW := gm 20 (by decide +kernel) (by decide +kernel)
abbrev cMd_thrown : ByteArray := prog_4_method_2_code
def yMd_thrown : MethodName := ⟨"NurseryRowModel", "thrown", "()I"⟩
theorem k_Md_thrown : Cond.code yMd_thrown cMd_thrown 1 (some .int) ∈ gW := gm 767 (by decide +kernel) (by decide +kernel)
theorem n_Md_thrown : yMd_thrown.cls = "NurseryRowModel" ∧ yMd_thrown.cls ≠ "java/lang/invoke/MethodHandle" ∧ yMd_thrown.cls ≠ "java/lang/invoke/VarHandle" ∧ (parseMethodDescriptor yMd_thrown.desc).map (fun d => d.parameters.length) = some 0 := by decide +kernel
theorem ki_Md_thrown : Cond.instanceMethod yMd_thrown ∈ gW := gm 765 (by decide +kernel) (by decide +kernel)
theorem ke_Md_thrown : Cond.selects "NurseryRowModel" yMd_thrown yMd_thrown ∈ gW := gm 766 (by decide +kernel) (by decide +kernel)
abbrev cMd_space : ByteArray := prog_4_method_5_code
def yMd_space : MethodName := ⟨"NurseryRowModel", "space", "(III)I"⟩
theorem k_Md_space : Cond.code yMd_space cMd_space 5 (some .int) ∈ gW := gm 771 (by decide +kernel) (by decide +kernel)
theorem n_Md_space : yMd_space.cls = "NurseryRowModel" ∧ yMd_space.cls ≠ "java/lang/invoke/MethodHandle" ∧ yMd_space.cls ≠ "java/lang/invoke/VarHandle" ∧ (parseMethodDescriptor yMd_space.desc).map (fun d => d.parameters.length) = some 3 := by decide +kernel
theorem ki_Md_space : Cond.instanceMethod yMd_space ∈ gW := gm 769 (by decide +kernel) (by decide +kernel)
theorem ke_Md_space : Cond.selects "NurseryRowModel" yMd_space yMd_space ∈ gW := gm 770 (by decide +kernel) (by decide +kernel)
abbrev cMd_goes : ByteArray := prog_4_method_3_code
def yMd_goes : MethodName := ⟨"NurseryRowModel", "goes", "(ZZ)Z"⟩
theorem k_Md_goes : Cond.code yMd_goes cMd_goes 3 (some .boolean) ∈ gW := gm 775 (by decide +kernel) (by decide +kernel)
theorem n_Md_goes : yMd_goes.cls = "NurseryRowModel" ∧ yMd_goes.cls ≠ "java/lang/invoke/MethodHandle" ∧ yMd_goes.cls ≠ "java/lang/invoke/VarHandle" ∧ (parseMethodDescriptor yMd_goes.desc).map (fun d => d.parameters.length) = some 2 := by decide +kernel
theorem ki_Md_goes : Cond.instanceMethod yMd_goes ∈ gW := gm 774 (by decide +kernel) (by decide +kernel)
theorem ke_Md_goes : Cond.selects "NurseryRowModel" yMd_goes yMd_goes ∈ gW := gm 21 (by decide +kernel) (by decide +kernel)
abbrev cMd_limit : ByteArray := prog_4_method_6_code
def yMd_limit : MethodName := ⟨"NurseryRowModel", "limit", "(I)I"⟩
theorem k_Md_limit : Cond.code yMd_limit cMd_limit 3 (some .int) ∈ gW := gm 779 (by decide +kernel) (by decide +kernel)
theorem n_Md_limit : yMd_limit.cls = "NurseryRowModel" ∧ yMd_limit.cls ≠ "java/lang/invoke/MethodHandle" ∧ yMd_limit.cls ≠ "java/lang/invoke/VarHandle" ∧ (parseMethodDescriptor yMd_limit.desc).map (fun d => d.parameters.length) = some 1 := by decide +kernel
theorem ki_Md_limit : Cond.instanceMethod yMd_limit ∈ gW := gm 777 (by decide +kernel) (by decide +kernel)
theorem ke_Md_limit : Cond.selects "NurseryRowModel" yMd_limit yMd_limit ∈ gW := gm 778 (by decide +kernel) (by decide +kernel)
abbrev cMd_make : ByteArray := prog_4_method_9_code
def yMd_make : MethodName := ⟨"NurseryRowModel", "make", "(II)I"⟩
theorem k_Md_make : Cond.code yMd_make cMd_make 6 (some .int) ∈ gW := gm 783 (by decide +kernel) (by decide +kernel)
theorem n_Md_make : yMd_make.cls = "NurseryRowModel" ∧ yMd_make.cls ≠ "java/lang/invoke/MethodHandle" ∧ yMd_make.cls ≠ "java/lang/invoke/VarHandle" ∧ (parseMethodDescriptor yMd_make.desc).map (fun d => d.parameters.length) = some 2 := by decide +kernel
theorem ki_Md_make : Cond.instanceMethod yMd_make ∈ gW := gm 781 (by decide +kernel) (by decide +kernel)
theorem ke_Md_make : Cond.selects "NurseryRowModel" yMd_make yMd_make ∈ gW := gm 782 (by decide +kernel) (by decide +kernel)
abbrev cMd_freeNumber : ByteArray := prog_4_method_8_code
def yMd_freeNumber : MethodName := ⟨"NurseryRowModel", "freeNumber", "()I"⟩
theorem k_Md_freeNumber : Cond.code yMd_freeNumber cMd_freeNumber 2 (some .int) ∈ gW := gm 787 (by decide +kernel) (by decide +kernel)
theorem n_Md_freeNumber : yMd_freeNumber.cls = "NurseryRowModel" ∧ yMd_freeNumber.cls ≠ "java/lang/invoke/MethodHandle" ∧ yMd_freeNumber.cls ≠ "java/lang/invoke/VarHandle" ∧ (parseMethodDescriptor yMd_freeNumber.desc).map (fun d => d.parameters.length) = some 0 := by decide +kernel
theorem ki_Md_freeNumber : Cond.instanceMethod yMd_freeNumber ∈ gW := gm 786 (by decide +kernel) (by decide +kernel)
theorem ke_Md_freeNumber : Cond.selects "NurseryRowModel" yMd_freeNumber yMd_freeNumber ∈ gW := gm 22 (by decide +kernel) (by decide +kernel)
abbrev cMd_set : ByteArray := prog_4_method_14_code
def yMd_set : MethodName := ⟨"NurseryRowModel", "set", "(III)I"⟩
theorem k_Md_set : Cond.code yMd_set cMd_set 7 (some .int) ∈ gW := gm 791 (by decide +kernel) (by decide +kernel)
theorem n_Md_set : yMd_set.cls = "NurseryRowModel" ∧ yMd_set.cls ≠ "java/lang/invoke/MethodHandle" ∧ yMd_set.cls ≠ "java/lang/invoke/VarHandle" ∧ (parseMethodDescriptor yMd_set.desc).map (fun d => d.parameters.length) = some 3 := by decide +kernel
theorem ki_Md_set : Cond.instanceMethod yMd_set ∈ gW := gm 789 (by decide +kernel) (by decide +kernel)
theorem ke_Md_set : Cond.selects "NurseryRowModel" yMd_set yMd_set ∈ gW := gm 790 (by decide +kernel) (by decide +kernel)
abbrev cMd_field : ByteArray := prog_4_method_12_code
def yMd_field : MethodName := ⟨"NurseryRowModel", "field", "(II)I"⟩
theorem k_Md_field : Cond.code yMd_field cMd_field 4 (some .int) ∈ gW := gm 795 (by decide +kernel) (by decide +kernel)
theorem n_Md_field : yMd_field.cls = "NurseryRowModel" ∧ yMd_field.cls ≠ "java/lang/invoke/MethodHandle" ∧ yMd_field.cls ≠ "java/lang/invoke/VarHandle" ∧ (parseMethodDescriptor yMd_field.desc).map (fun d => d.parameters.length) = some 2 := by decide +kernel
theorem ki_Md_field : Cond.instanceMethod yMd_field ∈ gW := gm 794 (by decide +kernel) (by decide +kernel)
theorem ke_Md_field : Cond.selects "NurseryRowModel" yMd_field yMd_field ∈ gW := gm 23 (by decide +kernel) (by decide +kernel)
abbrev cMd_object : ByteArray := prog_4_method_10_code
def yMd_object : MethodName := ⟨"NurseryRowModel", "object", "(I)I"⟩
theorem k_Md_object : Cond.code yMd_object cMd_object 3 (some .int) ∈ gW := gm 799 (by decide +kernel) (by decide +kernel)
theorem n_Md_object : yMd_object.cls = "NurseryRowModel" ∧ yMd_object.cls ≠ "java/lang/invoke/MethodHandle" ∧ yMd_object.cls ≠ "java/lang/invoke/VarHandle" ∧ (parseMethodDescriptor yMd_object.desc).map (fun d => d.parameters.length) = some 1 := by decide +kernel
theorem ki_Md_object : Cond.instanceMethod yMd_object ∈ gW := gm 798 (by decide +kernel) (by decide +kernel)
theorem ke_Md_object : Cond.selects "NurseryRowModel" yMd_object yMd_object ∈ gW := gm 24 (by decide +kernel) (by decide +kernel)
abbrev cMd_told : ByteArray := prog_4_method_11_code
def yMd_told : MethodName := ⟨"NurseryRowModel", "told", "(I)I"⟩
theorem k_Md_told : Cond.code yMd_told cMd_told 2 (some .int) ∈ gW := gm 803 (by decide +kernel) (by decide +kernel)
theorem n_Md_told : yMd_told.cls = "NurseryRowModel" ∧ yMd_told.cls ≠ "java/lang/invoke/MethodHandle" ∧ yMd_told.cls ≠ "java/lang/invoke/VarHandle" ∧ (parseMethodDescriptor yMd_told.desc).map (fun d => d.parameters.length) = some 1 := by decide +kernel
theorem ki_Md_told : Cond.instanceMethod yMd_told ∈ gW := gm 802 (by decide +kernel) (by decide +kernel)
theorem ke_Md_told : Cond.selects "NurseryRowModel" yMd_told yMd_told ∈ gW := gm 25 (by decide +kernel) (by decide +kernel)
abbrev cMd_get : ByteArray := prog_4_method_15_code
def yMd_get : MethodName := ⟨"NurseryRowModel", "get", "(II)I"⟩
theorem k_Md_get : Cond.code yMd_get cMd_get 4 (some .int) ∈ gW := gm 807 (by decide +kernel) (by decide +kernel)
theorem n_Md_get : yMd_get.cls = "NurseryRowModel" ∧ yMd_get.cls ≠ "java/lang/invoke/MethodHandle" ∧ yMd_get.cls ≠ "java/lang/invoke/VarHandle" ∧ (parseMethodDescriptor yMd_get.desc).map (fun d => d.parameters.length) = some 2 := by decide +kernel
theorem ki_Md_get : Cond.instanceMethod yMd_get ∈ gW := gm 805 (by decide +kernel) (by decide +kernel)
theorem ke_Md_get : Cond.selects "NurseryRowModel" yMd_get yMd_get ∈ gW := gm 806 (by decide +kernel) (by decide +kernel)
abbrev cMd_put : ByteArray := prog_4_method_16_code
def yMd_put : MethodName := ⟨"NurseryRowModel", "put", "(III)I"⟩
theorem k_Md_put : Cond.code yMd_put cMd_put 6 (some .int) ∈ gW := gm 811 (by decide +kernel) (by decide +kernel)
theorem n_Md_put : yMd_put.cls = "NurseryRowModel" ∧ yMd_put.cls ≠ "java/lang/invoke/MethodHandle" ∧ yMd_put.cls ≠ "java/lang/invoke/VarHandle" ∧ (parseMethodDescriptor yMd_put.desc).map (fun d => d.parameters.length) = some 3 := by decide +kernel
theorem ki_Md_put : Cond.instanceMethod yMd_put ∈ gW := gm 809 (by decide +kernel) (by decide +kernel)
theorem ke_Md_put : Cond.selects "NurseryRowModel" yMd_put yMd_put ∈ gW := gm 810 (by decide +kernel) (by decide +kernel)
abbrev cMd_place : ByteArray := prog_4_method_13_code
def yMd_place : MethodName := ⟨"NurseryRowModel", "place", "(II)I"⟩
theorem k_Md_place : Cond.code yMd_place cMd_place 4 (some .int) ∈ gW := gm 815 (by decide +kernel) (by decide +kernel)
theorem n_Md_place : yMd_place.cls = "NurseryRowModel" ∧ yMd_place.cls ≠ "java/lang/invoke/MethodHandle" ∧ yMd_place.cls ≠ "java/lang/invoke/VarHandle" ∧ (parseMethodDescriptor yMd_place.desc).map (fun d => d.parameters.length) = some 2 := by decide +kernel
theorem ki_Md_place : Cond.instanceMethod yMd_place ∈ gW := gm 814 (by decide +kernel) (by decide +kernel)
theorem ke_Md_place : Cond.selects "NurseryRowModel" yMd_place yMd_place ∈ gW := gm 26 (by decide +kernel) (by decide +kernel)
abbrev cMd_word : ByteArray := prog_4_method_17_code
def yMd_word : MethodName := ⟨"NurseryRowModel", "word", "(II)I"⟩
theorem k_Md_word : Cond.code yMd_word cMd_word 4 (some .int) ∈ gW := gm 819 (by decide +kernel) (by decide +kernel)
theorem n_Md_word : yMd_word.cls = "NurseryRowModel" ∧ yMd_word.cls ≠ "java/lang/invoke/MethodHandle" ∧ yMd_word.cls ≠ "java/lang/invoke/VarHandle" ∧ (parseMethodDescriptor yMd_word.desc).map (fun d => d.parameters.length) = some 2 := by decide +kernel
theorem ki_Md_word : Cond.instanceMethod yMd_word ∈ gW := gm 817 (by decide +kernel) (by decide +kernel)
theorem ke_Md_word : Cond.selects "NurseryRowModel" yMd_word yMd_word ∈ gW := gm 818 (by decide +kernel) (by decide +kernel)
abbrev cMd_root : ByteArray := prog_4_method_18_code
def yMd_root : MethodName := ⟨"NurseryRowModel", "root", "(II)I"⟩
theorem k_Md_root : Cond.code yMd_root cMd_root 5 (some .int) ∈ gW := gm 823 (by decide +kernel) (by decide +kernel)
theorem n_Md_root : yMd_root.cls = "NurseryRowModel" ∧ yMd_root.cls ≠ "java/lang/invoke/MethodHandle" ∧ yMd_root.cls ≠ "java/lang/invoke/VarHandle" ∧ (parseMethodDescriptor yMd_root.desc).map (fun d => d.parameters.length) = some 2 := by decide +kernel
theorem ki_Md_root : Cond.instanceMethod yMd_root ∈ gW := gm 821 (by decide +kernel) (by decide +kernel)
theorem ke_Md_root : Cond.selects "NurseryRowModel" yMd_root yMd_root ∈ gW := gm 822 (by decide +kernel) (by decide +kernel)
abbrev cMd_rooted : ByteArray := prog_4_method_19_code
def yMd_rooted : MethodName := ⟨"NurseryRowModel", "rooted", "(I)I"⟩
theorem k_Md_rooted : Cond.code yMd_rooted cMd_rooted 2 (some .int) ∈ gW := gm 827 (by decide +kernel) (by decide +kernel)
theorem n_Md_rooted : yMd_rooted.cls = "NurseryRowModel" ∧ yMd_rooted.cls ≠ "java/lang/invoke/MethodHandle" ∧ yMd_rooted.cls ≠ "java/lang/invoke/VarHandle" ∧ (parseMethodDescriptor yMd_rooted.desc).map (fun d => d.parameters.length) = some 1 := by decide +kernel
theorem ki_Md_rooted : Cond.instanceMethod yMd_rooted ∈ gW := gm 825 (by decide +kernel) (by decide +kernel)
theorem ke_Md_rooted : Cond.selects "NurseryRowModel" yMd_rooted yMd_rooted ∈ gW := gm 826 (by decide +kernel) (by decide +kernel)
abbrev cMd_collect : ByteArray := prog_4_method_23_code
def yMd_collect : MethodName := ⟨"NurseryRowModel", "collect", "()I"⟩
theorem k_Md_collect : Cond.code yMd_collect cMd_collect 3 (some .int) ∈ gW := gm 831 (by decide +kernel) (by decide +kernel)
theorem n_Md_collect : yMd_collect.cls = "NurseryRowModel" ∧ yMd_collect.cls ≠ "java/lang/invoke/MethodHandle" ∧ yMd_collect.cls ≠ "java/lang/invoke/VarHandle" ∧ (parseMethodDescriptor yMd_collect.desc).map (fun d => d.parameters.length) = some 0 := by decide +kernel
theorem ki_Md_collect : Cond.instanceMethod yMd_collect ∈ gW := gm 829 (by decide +kernel) (by decide +kernel)
theorem ke_Md_collect : Cond.selects "NurseryRowModel" yMd_collect yMd_collect ∈ gW := gm 830 (by decide +kernel) (by decide +kernel)
abbrev cMd_find : ByteArray := prog_4_method_20_code
def yMd_find : MethodName := ⟨"NurseryRowModel", "find", "(I)V"⟩
theorem k_Md_find : Cond.code yMd_find cMd_find 6 (none : Option Jvm.ClassFile.FieldType) ∈ gW := gm 835 (by decide +kernel) (by decide +kernel)
theorem n_Md_find : yMd_find.cls = "NurseryRowModel" ∧ yMd_find.cls ≠ "java/lang/invoke/MethodHandle" ∧ yMd_find.cls ≠ "java/lang/invoke/VarHandle" ∧ (parseMethodDescriptor yMd_find.desc).map (fun d => d.parameters.length) = some 1 := by decide +kernel
theorem ki_Md_find : Cond.instanceMethod yMd_find ∈ gW := gm 834 (by decide +kernel) (by decide +kernel)
theorem ke_Md_find : Cond.selects "NurseryRowModel" yMd_find yMd_find ∈ gW := gm 27 (by decide +kernel) (by decide +kernel)
abbrev cMd_size : ByteArray := prog_4_method_7_code
def yMd_size : MethodName := ⟨"NurseryRowModel", "size", "(I)I"⟩
theorem k_Md_size : Cond.code yMd_size cMd_size 2 (some .int) ∈ gW := gm 839 (by decide +kernel) (by decide +kernel)
theorem n_Md_size : yMd_size.cls = "NurseryRowModel" ∧ yMd_size.cls ≠ "java/lang/invoke/MethodHandle" ∧ yMd_size.cls ≠ "java/lang/invoke/VarHandle" ∧ (parseMethodDescriptor yMd_size.desc).map (fun d => d.parameters.length) = some 1 := by decide +kernel
theorem ki_Md_size : Cond.instanceMethod yMd_size ∈ gW := gm 838 (by decide +kernel) (by decide +kernel)
theorem ke_Md_size : Cond.selects "NurseryRowModel" yMd_size yMd_size ∈ gW := gm 28 (by decide +kernel) (by decide +kernel)
abbrev cMd_findFields : ByteArray := prog_4_method_21_code
def yMd_findFields : MethodName := ⟨"NurseryRowModel", "findFields", "(I)V"⟩
theorem k_Md_findFields : Cond.code yMd_findFields cMd_findFields 3 (none : Option Jvm.ClassFile.FieldType) ∈ gW := gm 843 (by decide +kernel) (by decide +kernel)
theorem n_Md_findFields : yMd_findFields.cls = "NurseryRowModel" ∧ yMd_findFields.cls ≠ "java/lang/invoke/MethodHandle" ∧ yMd_findFields.cls ≠ "java/lang/invoke/VarHandle" ∧ (parseMethodDescriptor yMd_findFields.desc).map (fun d => d.parameters.length) = some 1 := by decide +kernel
theorem ki_Md_findFields : Cond.instanceMethod yMd_findFields ∈ gW := gm 842 (by decide +kernel) (by decide +kernel)
theorem ke_Md_findFields : Cond.selects "NurseryRowModel" yMd_findFields yMd_findFields ∈ gW := gm 29 (by decide +kernel) (by decide +kernel)
abbrev cMd_tidy : ByteArray := prog_4_method_22_code
def yMd_tidy : MethodName := ⟨"NurseryRowModel", "tidy", "()V"⟩
theorem k_Md_tidy : Cond.code yMd_tidy cMd_tidy 5 (none : Option Jvm.ClassFile.FieldType) ∈ gW := gm 847 (by decide +kernel) (by decide +kernel)
theorem n_Md_tidy : yMd_tidy.cls = "NurseryRowModel" ∧ yMd_tidy.cls ≠ "java/lang/invoke/MethodHandle" ∧ yMd_tidy.cls ≠ "java/lang/invoke/VarHandle" ∧ (parseMethodDescriptor yMd_tidy.desc).map (fun d => d.parameters.length) = some 0 := by decide +kernel
theorem ki_Md_tidy : Cond.instanceMethod yMd_tidy ∈ gW := gm 846 (by decide +kernel) (by decide +kernel)
theorem ke_Md_tidy : Cond.selects "NurseryRowModel" yMd_tidy yMd_tidy ∈ gW := gm 30 (by decide +kernel) (by decide +kernel)
abbrev cMd_about : ByteArray := prog_4_method_24_code
def yMd_about : MethodName := ⟨"NurseryRowModel", "about", "(II)I"⟩
theorem k_Md_about : Cond.code yMd_about cMd_about 4 (some .int) ∈ gW := gm 851 (by decide +kernel) (by decide +kernel)
theorem n_Md_about : yMd_about.cls = "NurseryRowModel" ∧ yMd_about.cls ≠ "java/lang/invoke/MethodHandle" ∧ yMd_about.cls ≠ "java/lang/invoke/VarHandle" ∧ (parseMethodDescriptor yMd_about.desc).map (fun d => d.parameters.length) = some 2 := by decide +kernel
theorem ki_Md_about : Cond.instanceMethod yMd_about ∈ gW := gm 849 (by decide +kernel) (by decide +kernel)
theorem ke_Md_about : Cond.selects "NurseryRowModel" yMd_about yMd_about ∈ gW := gm 850 (by decide +kernel) (by decide +kernel)
abbrev cMd_next : ByteArray := prog_4_method_25_code
def yMd_next : MethodName := ⟨"NurseryRowModel", "next", "(I)I"⟩
theorem k_Md_next : Cond.code yMd_next cMd_next 5 (some .int) ∈ gW := gm 855 (by decide +kernel) (by decide +kernel)
theorem n_Md_next : yMd_next.cls = "NurseryRowModel" ∧ yMd_next.cls ≠ "java/lang/invoke/MethodHandle" ∧ yMd_next.cls ≠ "java/lang/invoke/VarHandle" ∧ (parseMethodDescriptor yMd_next.desc).map (fun d => d.parameters.length) = some 1 := by decide +kernel
theorem ki_Md_next : Cond.instanceMethod yMd_next ∈ gW := gm 853 (by decide +kernel) (by decide +kernel)
theorem ke_Md_next : Cond.selects "NurseryRowModel" yMd_next yMd_next ∈ gW := gm 854 (by decide +kernel) (by decide +kernel)
abbrev cMd_count : ByteArray := prog_4_method_27_code
def yMd_count : MethodName := ⟨"NurseryRowModel", "count", "(I)I"⟩
theorem k_Md_count : Cond.code yMd_count cMd_count 2 (some .int) ∈ gW := gm 859 (by decide +kernel) (by decide +kernel)
theorem n_Md_count : yMd_count.cls = "NurseryRowModel" ∧ yMd_count.cls ≠ "java/lang/invoke/MethodHandle" ∧ yMd_count.cls ≠ "java/lang/invoke/VarHandle" ∧ (parseMethodDescriptor yMd_count.desc).map (fun d => d.parameters.length) = some 1 := by decide +kernel
theorem ki_Md_count : Cond.instanceMethod yMd_count ∈ gW := gm 857 (by decide +kernel) (by decide +kernel)
theorem ke_Md_count : Cond.selects "NurseryRowModel" yMd_count yMd_count ∈ gW := gm 858 (by decide +kernel) (by decide +kernel)
abbrev cMd_many : ByteArray := prog_4_method_26_code
def yMd_many : MethodName := ⟨"NurseryRowModel", "many", "(I)I"⟩
theorem k_Md_many : Cond.code yMd_many cMd_many 4 (some .int) ∈ gW := gm 863 (by decide +kernel) (by decide +kernel)
theorem n_Md_many : yMd_many.cls = "NurseryRowModel" ∧ yMd_many.cls ≠ "java/lang/invoke/MethodHandle" ∧ yMd_many.cls ≠ "java/lang/invoke/VarHandle" ∧ (parseMethodDescriptor yMd_many.desc).map (fun d => d.parameters.length) = some 1 := by decide +kernel
theorem ki_Md_many : Cond.instanceMethod yMd_many ∈ gW := gm 862 (by decide +kernel) (by decide +kernel)
theorem ke_Md_many : Cond.selects "NurseryRowModel" yMd_many yMd_many ∈ gW := gm 31 (by decide +kernel) (by decide +kernel)
theorem z_Lw : Cond.initialized "NurseryRowLaw" ∈ gW := gm 32 (by decide +kernel) (by decide +kernel)
theorem z_Nr : Cond.initialized "NurseryRow" ∈ gW := gm 33 (by decide +kernel) (by decide +kernel)
theorem z_Pt : Cond.initialized "NurseryRow$Part" ∈ gW := gm 34 (by decide +kernel) (by decide +kernel)
theorem z_Md : Cond.initialized "NurseryRowModel" ∈ gW := gm 35 (by decide +kernel) (by decide +kernel)
theorem z_Throwable : Cond.initialized "java/lang/Throwable" ∈ gW := gm 36 (by decide +kernel) (by decide +kernel)
theorem z_Exception : Cond.initialized "java/lang/Exception" ∈ gW := gm 37 (by decide +kernel) (by decide +kernel)
theorem z_RuntimeException : Cond.initialized "java/lang/RuntimeException" ∈ gW := gm 38 (by decide +kernel) (by decide +kernel)
theorem z_IllegalArgumentException : Cond.initialized "java/lang/IllegalArgumentException" ∈ gW := gm 39 (by decide +kernel) (by decide +kernel)
theorem z_Ar : Cond.initialized "java/util/Arrays" ∈ gW := gm 40 (by decide +kernel) (by decide +kernel)
theorem z_AbstractStringBuilder : Cond.initialized "java/lang/AbstractStringBuilder" ∈ gW := gm 41 (by decide +kernel) (by decide +kernel)
theorem z_StringBuilder : Cond.initialized "java/lang/StringBuilder" ∈ gW := gm 42 (by decide +kernel) (by decide +kernel)
theorem z_String : Cond.initialized "java/lang/String" ∈ gW := gm 43 (by decide +kernel) (by decide +kernel)
theorem z_StringUTF16 : Cond.initialized "java/lang/StringUTF16" ∈ gW := gm 44 (by decide +kernel) (by decide +kernel)
theorem z_ArraysSupport : Cond.initialized "jdk/internal/util/ArraysSupport" ∈ gW := gm 45 (by decide +kernel) (by decide +kernel)
theorem z_Math : Cond.initialized "java/lang/Math" ∈ gW := gm 46 (by decide +kernel) (by decide +kernel)
theorem z_System : Cond.initialized "java/lang/System" ∈ gW := gm 47 (by decide +kernel) (by decide +kernel)
theorem z_Preconditions : Cond.initialized "jdk/internal/util/Preconditions" ∈ gW := gm 48 (by decide +kernel) (by decide +kernel)
theorem z_StringLatin1 : Cond.initialized "java/lang/StringLatin1" ∈ gW := gm 49 (by decide +kernel) (by decide +kernel)
theorem z_Integer : Cond.initialized "java/lang/Integer" ∈ gW := gm 50 (by decide +kernel) (by decide +kernel)
theorem z_NoSuchElementException : Cond.initialized "java/util/NoSuchElementException" ∈ gW := gm 51 (by decide +kernel) (by decide +kernel)
theorem z_IllegalStateException : Cond.initialized "java/lang/IllegalStateException" ∈ gW := gm 52 (by decide +kernel) (by decide +kernel)
theorem kl_Lw_8 : Cond.classLink "NurseryRowLaw" 8 "NurseryRow" ∈ gW := gm 53 (by decide +kernel) (by decide +kernel)
theorem kn_Nr : Cond.instantiable "NurseryRow" 10 ∈ gW := gm 54 (by decide +kernel) (by decide +kernel)
theorem l_Lw_58 : Cond.methodLink "NurseryRowLaw" 58 yNr_init ∈ gW := gm 55 (by decide +kernel) (by decide +kernel)
theorem l_Nr_3 : Cond.methodLink "NurseryRow" 3 objectInit ∈ gW := gm 58 (by decide +kernel) (by decide +kernel)
theorem kl_Nr_9 : Cond.classLink "NurseryRow" 9 "NurseryRow$Part" ∈ gW := gm 61 (by decide +kernel) (by decide +kernel)
theorem kn_Pt : Cond.instantiable "NurseryRow$Part" 4 ∈ gW := gm 63 (by decide +kernel) (by decide +kernel)
theorem l_Pt_1 : Cond.methodLink "NurseryRow$Part" 1 objectInit ∈ gW := gm 67 (by decide +kernel) (by decide +kernel)
theorem f_Pt_7 : Cond.fieldLink "NurseryRow$Part" 7 "NurseryRow$Part" "first" "I" ∈ gW := gm 68 (by decide +kernel) (by decide +kernel)
theorem f_Nr_164 : Cond.fieldLink "NurseryRow" 164 "NurseryRow$Part" "first" "I" ∈ gW := gm 69 (by decide +kernel) (by decide +kernel)
theorem f_Pt_13 : Cond.fieldLink "NurseryRow$Part" 13 "NurseryRow$Part" "cells" "I" ∈ gW := gm 70 (by decide +kernel) (by decide +kernel)
theorem f_Nr_162 : Cond.fieldLink "NurseryRow" 162 "NurseryRow$Part" "cells" "I" ∈ gW := gm 71 (by decide +kernel) (by decide +kernel)
theorem f_Pt_19 : Cond.fieldLink "NurseryRow$Part" 19 "NurseryRow$Part" "used" "I" ∈ gW := gm 72 (by decide +kernel) (by decide +kernel)
theorem f_Nr_112 : Cond.fieldLink "NurseryRow" 112 "NurseryRow$Part" "used" "I" ∈ gW := gm 73 (by decide +kernel) (by decide +kernel)
theorem f_Pt_22 : Cond.fieldLink "NurseryRow$Part" 22 "NurseryRow$Part" "objects" "I" ∈ gW := gm 74 (by decide +kernel) (by decide +kernel)
theorem f_Nr_120 : Cond.fieldLink "NurseryRow" 120 "NurseryRow$Part" "objects" "I" ∈ gW := gm 75 (by decide +kernel) (by decide +kernel)
theorem l_Nr_30 : Cond.methodLink "NurseryRow" 30 yNr_layParts ∈ gW := gm 85 (by decide +kernel) (by decide +kernel)
theorem l_Nr_158 : Cond.methodLink "NurseryRow" 158 yPt_lay ∈ gW := gm 89 (by decide +kernel) (by decide +kernel)
theorem l_Pt_16 : Cond.methodLink "NurseryRow$Part" 16 yPt_empty ∈ gW := gm 93 (by decide +kernel) (by decide +kernel)
theorem f_Nr_11 : Cond.fieldLink "NurseryRow" 11 "NurseryRow" "parts" "[LNurseryRow$Part;" ∈ gW := gm 97 (by decide +kernel) (by decide +kernel)
theorem f_Nr_16 : Cond.fieldLink "NurseryRow" 16 "NurseryRow" "roots" "[I" ∈ gW := gm 98 (by decide +kernel) (by decide +kernel)
theorem f_Nr_20 : Cond.fieldLink "NurseryRow" 20 "NurseryRow" "copies" "[I" ∈ gW := gm 99 (by decide +kernel) (by decide +kernel)
theorem f_Nr_23 : Cond.fieldLink "NurseryRow" 23 "NurseryRow" "cells" "[I" ∈ gW := gm 100 (by decide +kernel) (by decide +kernel)
theorem f_Nr_123 : Cond.fieldLink "NurseryRow" 123 "NurseryRow" "copied" "I" ∈ gW := gm 101 (by decide +kernel) (by decide +kernel)
theorem f_Nr_26 : Cond.fieldLink "NurseryRow" 26 "NurseryRow" "ageLimit" "I" ∈ gW := gm 102 (by decide +kernel) (by decide +kernel)
theorem f_Nr_58 : Cond.fieldLink "NurseryRow" 58 "NurseryRow" "rowInUse" "I" ∈ gW := gm 103 (by decide +kernel) (by decide +kernel)
theorem f_Nr_61 : Cond.fieldLink "NurseryRow" 61 "NurseryRow" "collections" "I" ∈ gW := gm 104 (by decide +kernel) (by decide +kernel)
theorem f_Nr_64 : Cond.fieldLink "NurseryRow" 64 "NurseryRow" "copiesInRows" "I" ∈ gW := gm 105 (by decide +kernel) (by decide +kernel)
theorem f_Nr_67 : Cond.fieldLink "NurseryRow" 67 "NurseryRow" "copiesInOld" "I" ∈ gW := gm 106 (by decide +kernel) (by decide +kernel)
theorem l_Lw_62 : Cond.methodLink "NurseryRowLaw" 62 yLw_space ∈ gW := gm 129 (by decide +kernel) (by decide +kernel)
theorem kl_Lw_13 : Cond.classLink "NurseryRowLaw" 13 "java/lang/IllegalArgumentException" ∈ gW := gm 132 (by decide +kernel) (by decide +kernel)
theorem l_Lw_7 : Cond.methodLink "NurseryRowLaw" 7 yNr_space ∈ gW := gm 133 (by decide +kernel) (by decide +kernel)
theorem l_Nr_34 : Cond.methodLink "NurseryRow" 34 yNr_isWithin ∈ gW := gm 137 (by decide +kernel) (by decide +kernel)
theorem kl_Nr_38 : Cond.classLink "NurseryRow" 38 "java/lang/IllegalArgumentException" ∈ gW := gm 140 (by decide +kernel) (by decide +kernel)
theorem l_Nr_45 : Cond.methodLink "NurseryRow" 45 yNr_allCells ∈ gW := gm 208 (by decide +kernel) (by decide +kernel)
theorem l_Nr_49 : Cond.methodLink "NurseryRow" 49 yNr_growCells ∈ gW := gm 212 (by decide +kernel) (by decide +kernel)
theorem l_Nr_52 : Cond.methodLink "NurseryRow" 52 yAr_fill2 ∈ gW := gm 216 (by decide +kernel) (by decide +kernel)
theorem l_Lw_71 : Cond.methodLink "NurseryRowLaw" 71 yLw_limit ∈ gW := gm 219 (by decide +kernel) (by decide +kernel)
theorem l_Lw_15 : Cond.methodLink "NurseryRowLaw" 15 yNr_limit ∈ gW := gm 222 (by decide +kernel) (by decide +kernel)
theorem l_Lw_75 : Cond.methodLink "NurseryRowLaw" 75 yLw_make ∈ gW := gm 227 (by decide +kernel) (by decide +kernel)
theorem l_Lw_19 : Cond.methodLink "NurseryRowLaw" 19 yNr_make ∈ gW := gm 230 (by decide +kernel) (by decide +kernel)
theorem l_Nr_74 : Cond.methodLink "NurseryRow" 74 yPt_free ∈ gW := gm 235 (by decide +kernel) (by decide +kernel)
theorem l_Nr_77 : Cond.methodLink "NurseryRow" 77 yPt_take ∈ gW := gm 239 (by decide +kernel) (by decide +kernel)
theorem l_Pt_25 : Cond.methodLink "NurseryRow$Part" 25 yPt_end ∈ gW := gm 243 (by decide +kernel) (by decide +kernel)
theorem l_Nr_81 : Cond.methodLink "NurseryRow" 81 yAr_fill4 ∈ gW := gm 247 (by decide +kernel) (by decide +kernel)
theorem l_Ar_13 : Cond.methodLink "java/util/Arrays" 13 yAr_rangeCheck ∈ gW := gm 250 (by decide +kernel) (by decide +kernel)
theorem kl_Ar_43 : Cond.classLink "java/util/Arrays" 43 "java/lang/IllegalArgumentException" ∈ gW := gm 253 (by decide +kernel) (by decide +kernel)
theorem kl_Ar_45 : Cond.classLink "java/util/Arrays" 45 "java/lang/StringBuilder" ∈ gW := gm 254 (by decide +kernel) (by decide +kernel)
theorem kl_Ar_311 : Cond.classLink "java/util/Arrays" 311 "[B" ∈ gW := gm 325 (by decide +kernel) (by decide +kernel)
theorem l_Ar_150 : Cond.methodLink "java/util/Arrays" 150 arraycopyName ∈ gW := gm 329 (by decide +kernel) (by decide +kernel)
theorem l_Lw_79 : Cond.methodLink "NurseryRowLaw" 79 yLw_set ∈ gW := gm 495 (by decide +kernel) (by decide +kernel)
theorem kl_Lw_26 : Cond.classLink "NurseryRowLaw" 26 "java/util/NoSuchElementException" ∈ gW := gm 498 (by decide +kernel) (by decide +kernel)
theorem l_Lw_23 : Cond.methodLink "NurseryRowLaw" 23 yNr_set ∈ gW := gm 499 (by decide +kernel) (by decide +kernel)
theorem l_Nr_84 : Cond.methodLink "NurseryRow" 84 yNr_fieldCell ∈ gW := gm 503 (by decide +kernel) (by decide +kernel)
theorem l_Nr_139 : Cond.methodLink "NurseryRow" 139 yNr_isObject ∈ gW := gm 507 (by decide +kernel) (by decide +kernel)
theorem l_Nr_142 : Cond.methodLink "NurseryRow" 142 yNr_partOf ∈ gW := gm 511 (by decide +kernel) (by decide +kernel)
theorem l_Nr_153 : Cond.methodLink "NurseryRow" 153 yPt_covers ∈ gW := gm 515 (by decide +kernel) (by decide +kernel)
theorem l_Nr_150 : Cond.methodLink "NurseryRow" 150 yNr_sizeAt ∈ gW := gm 519 (by decide +kernel) (by decide +kernel)
theorem l_Nr_88 : Cond.methodLink "NurseryRow" 88 yNr_isNothingOrObject ∈ gW := gm 523 (by decide +kernel) (by decide +kernel)
theorem kl_Nr_92 : Cond.classLink "NurseryRow" 92 "java/util/NoSuchElementException" ∈ gW := gm 527 (by decide +kernel) (by decide +kernel)
theorem l_Nr_97 : Cond.methodLink "NurseryRow" 97 yNr_exchange ∈ gW := gm 543 (by decide +kernel) (by decide +kernel)
theorem l_Lw_82 : Cond.methodLink "NurseryRowLaw" 82 yLw_get ∈ gW := gm 547 (by decide +kernel) (by decide +kernel)
theorem l_Lw_28 : Cond.methodLink "NurseryRowLaw" 28 yNr_get ∈ gW := gm 550 (by decide +kernel) (by decide +kernel)
theorem l_Lw_85 : Cond.methodLink "NurseryRowLaw" 85 yLw_put ∈ gW := gm 554 (by decide +kernel) (by decide +kernel)
theorem l_Lw_31 : Cond.methodLink "NurseryRowLaw" 31 yNr_put ∈ gW := gm 557 (by decide +kernel) (by decide +kernel)
theorem l_Nr_100 : Cond.methodLink "NurseryRow" 100 yNr_wordCell ∈ gW := gm 561 (by decide +kernel) (by decide +kernel)
theorem l_Lw_88 : Cond.methodLink "NurseryRowLaw" 88 yLw_word ∈ gW := gm 566 (by decide +kernel) (by decide +kernel)
theorem l_Lw_34 : Cond.methodLink "NurseryRowLaw" 34 yNr_word ∈ gW := gm 569 (by decide +kernel) (by decide +kernel)
theorem l_Lw_91 : Cond.methodLink "NurseryRowLaw" 91 yLw_root ∈ gW := gm 573 (by decide +kernel) (by decide +kernel)
theorem l_Lw_37 : Cond.methodLink "NurseryRowLaw" 37 yNr_root ∈ gW := gm 576 (by decide +kernel) (by decide +kernel)
theorem l_Nr_105 : Cond.methodLink "NurseryRow" 105 yNr_isRoot ∈ gW := gm 580 (by decide +kernel) (by decide +kernel)
theorem l_Lw_94 : Cond.methodLink "NurseryRowLaw" 94 yLw_rooted ∈ gW := gm 584 (by decide +kernel) (by decide +kernel)
theorem l_Lw_40 : Cond.methodLink "NurseryRowLaw" 40 yNr_rooted ∈ gW := gm 587 (by decide +kernel) (by decide +kernel)
theorem l_Lw_97 : Cond.methodLink "NurseryRowLaw" 97 yLw_collect ∈ gW := gm 592 (by decide +kernel) (by decide +kernel)
theorem kl_Lw_47 : Cond.classLink "NurseryRowLaw" 47 "java/lang/IllegalStateException" ∈ gW := gm 595 (by decide +kernel) (by decide +kernel)
theorem l_Lw_43 : Cond.methodLink "NurseryRowLaw" 43 yNr_collect ∈ gW := gm 596 (by decide +kernel) (by decide +kernel)
theorem kl_Nr_115 : Cond.classLink "NurseryRow" 115 "java/lang/IllegalStateException" ∈ gW := gm 600 (by decide +kernel) (by decide +kernel)
theorem l_Nr_126 : Cond.methodLink "NurseryRow" 126 yNr_followRoots ∈ gW := gm 616 (by decide +kernel) (by decide +kernel)
theorem l_Nr_167 : Cond.methodLink "NurseryRow" 167 yNr_follow ∈ gW := gm 620 (by decide +kernel) (by decide +kernel)
theorem l_Nr_173 : Cond.methodLink "NurseryRow" 173 yNr_isYoung ∈ gW := gm 624 (by decide +kernel) (by decide +kernel)
theorem l_Nr_176 : Cond.methodLink "NurseryRow" 176 yNr_copyOf ∈ gW := gm 628 (by decide +kernel) (by decide +kernel)
theorem l_Nr_179 : Cond.methodLink "NurseryRow" 179 arraycopyName ∈ gW := gm 632 (by decide +kernel) (by decide +kernel)
theorem l_Nr_185 : Cond.methodLink "NurseryRow" 185 yNr_noteCopy ∈ gW := gm 633 (by decide +kernel) (by decide +kernel)
theorem l_Nr_129 : Cond.methodLink "NurseryRow" 129 yNr_followOld ∈ gW := gm 637 (by decide +kernel) (by decide +kernel)
theorem l_Nr_170 : Cond.methodLink "NurseryRow" 170 yNr_followFields ∈ gW := gm 641 (by decide +kernel) (by decide +kernel)
theorem l_Nr_133 : Cond.methodLink "NurseryRow" 133 yNr_followCopies ∈ gW := gm 645 (by decide +kernel) (by decide +kernel)
theorem l_Nr_136 : Cond.methodLink "NurseryRow" 136 yPt_empty ∈ gW := gm 649 (by decide +kernel) (by decide +kernel)
theorem l_Lw_101 : Cond.methodLink "NurseryRowLaw" 101 yLw_about ∈ gW := gm 650 (by decide +kernel) (by decide +kernel)
theorem l_Lw_49 : Cond.methodLink "NurseryRowLaw" 49 yNr_about ∈ gW := gm 653 (by decide +kernel) (by decide +kernel)
theorem l_Lw_104 : Cond.methodLink "NurseryRowLaw" 104 yLw_next ∈ gW := gm 658 (by decide +kernel) (by decide +kernel)
theorem l_Lw_52 : Cond.methodLink "NurseryRowLaw" 52 yNr_next ∈ gW := gm 661 (by decide +kernel) (by decide +kernel)
theorem l_Nr_147 : Cond.methodLink "NurseryRow" 147 yNr_firstFrom ∈ gW := gm 665 (by decide +kernel) (by decide +kernel)
theorem l_Lw_107 : Cond.methodLink "NurseryRowLaw" 107 yLw_count ∈ gW := gm 669 (by decide +kernel) (by decide +kernel)
theorem l_Lw_55 : Cond.methodLink "NurseryRowLaw" 55 yNr_count ∈ gW := gm 672 (by decide +kernel) (by decide +kernel)
theorem kl_Lw_59 : Cond.classLink "NurseryRowLaw" 59 "NurseryRowModel" ∈ gW := gm 677 (by decide +kernel) (by decide +kernel)
theorem kn_Md : Cond.instantiable "NurseryRowModel" 25 ∈ gW := gm 678 (by decide +kernel) (by decide +kernel)
theorem l_Lw_61 : Cond.methodLink "NurseryRowLaw" 61 yMd_init ∈ gW := gm 679 (by decide +kernel) (by decide +kernel)
theorem l_Md_1 : Cond.methodLink "NurseryRowModel" 1 objectInit ∈ gW := gm 682 (by decide +kernel) (by decide +kernel)
theorem l_Md_66 : Cond.methodLink "NurseryRowModel" 66 yMd_lay ∈ gW := gm 683 (by decide +kernel) (by decide +kernel)
theorem f_Md_70 : Cond.fieldLink "NurseryRowModel" 70 "NurseryRowModel" "thrown" "I" ∈ gW := gm 687 (by decide +kernel) (by decide +kernel)
theorem f_Md_7 : Cond.fieldLink "NurseryRowModel" 7 "NurseryRowModel" "firsts" "[I" ∈ gW := gm 688 (by decide +kernel) (by decide +kernel)
theorem f_Md_13 : Cond.fieldLink "NurseryRowModel" 13 "NurseryRowModel" "sizes" "[I" ∈ gW := gm 689 (by decide +kernel) (by decide +kernel)
theorem f_Md_16 : Cond.fieldLink "NurseryRowModel" 16 "NurseryRowModel" "tops" "[I" ∈ gW := gm 690 (by decide +kernel) (by decide +kernel)
theorem f_Md_19 : Cond.fieldLink "NurseryRowModel" 19 "NurseryRowModel" "row" "I" ∈ gW := gm 691 (by decide +kernel) (by decide +kernel)
theorem f_Md_23 : Cond.fieldLink "NurseryRowModel" 23 "NurseryRowModel" "limited" "I" ∈ gW := gm 692 (by decide +kernel) (by decide +kernel)
theorem f_Md_26 : Cond.fieldLink "NurseryRowModel" 26 "NurseryRowModel" "there" "[Z" ∈ gW := gm 693 (by decide +kernel) (by decide +kernel)
theorem f_Md_30 : Cond.fieldLink "NurseryRowModel" 30 "NurseryRowModel" "areas" "[I" ∈ gW := gm 694 (by decide +kernel) (by decide +kernel)
theorem f_Md_33 : Cond.fieldLink "NurseryRowModel" 33 "NurseryRowModel" "addresses" "[I" ∈ gW := gm 695 (by decide +kernel) (by decide +kernel)
theorem f_Md_36 : Cond.fieldLink "NurseryRowModel" 36 "NurseryRowModel" "ages" "[I" ∈ gW := gm 696 (by decide +kernel) (by decide +kernel)
theorem f_Md_39 : Cond.fieldLink "NurseryRowModel" 39 "NurseryRowModel" "fields" "[I" ∈ gW := gm 697 (by decide +kernel) (by decide +kernel)
theorem f_Md_42 : Cond.fieldLink "NurseryRowModel" 42 "NurseryRowModel" "words" "[I" ∈ gW := gm 698 (by decide +kernel) (by decide +kernel)
theorem f_Md_45 : Cond.fieldLink "NurseryRowModel" 45 "NurseryRowModel" "starts" "[I" ∈ gW := gm 699 (by decide +kernel) (by decide +kernel)
theorem f_Md_73 : Cond.fieldLink "NurseryRowModel" 73 "NurseryRowModel" "filled" "I" ∈ gW := gm 700 (by decide +kernel) (by decide +kernel)
theorem f_Md_48 : Cond.fieldLink "NurseryRowModel" 48 "NurseryRowModel" "data" "[I" ∈ gW := gm 701 (by decide +kernel) (by decide +kernel)
theorem f_Md_51 : Cond.fieldLink "NurseryRowModel" 51 "NurseryRowModel" "spare" "[I" ∈ gW := gm 702 (by decide +kernel) (by decide +kernel)
theorem f_Md_76 : Cond.fieldLink "NurseryRowModel" 76 "NurseryRowModel" "oldMany" "I" ∈ gW := gm 703 (by decide +kernel) (by decide +kernel)
theorem f_Md_54 : Cond.fieldLink "NurseryRowModel" 54 "NurseryRowModel" "olds" "[I" ∈ gW := gm 704 (by decide +kernel) (by decide +kernel)
theorem f_Md_113 : Cond.fieldLink "NurseryRowModel" 113 "NurseryRowModel" "copies" "I" ∈ gW := gm 705 (by decide +kernel) (by decide +kernel)
theorem f_Md_57 : Cond.fieldLink "NurseryRowModel" 57 "NurseryRowModel" "copied" "[I" ∈ gW := gm 706 (by decide +kernel) (by decide +kernel)
theorem f_Md_60 : Cond.fieldLink "NurseryRowModel" 60 "NurseryRowModel" "moved" "[Z" ∈ gW := gm 707 (by decide +kernel) (by decide +kernel)
theorem f_Md_63 : Cond.fieldLink "NurseryRowModel" 63 "NurseryRowModel" "roots" "[I" ∈ gW := gm 708 (by decide +kernel) (by decide +kernel)
theorem f_Md_79 : Cond.fieldLink "NurseryRowModel" 79 "NurseryRowModel" "collections" "I" ∈ gW := gm 709 (by decide +kernel) (by decide +kernel)
theorem f_Md_82 : Cond.fieldLink "NurseryRowModel" 82 "NurseryRowModel" "toRows" "I" ∈ gW := gm 710 (by decide +kernel) (by decide +kernel)
theorem f_Md_85 : Cond.fieldLink "NurseryRowModel" 85 "NurseryRowModel" "toOld" "I" ∈ gW := gm 711 (by decide +kernel) (by decide +kernel)
theorem l_Lw_68 : Cond.methodLink "NurseryRowLaw" 68 yMd_thrown ∈ gW := gm 764 (by decide +kernel) (by decide +kernel)
theorem l_Lw_67 : Cond.methodLink "NurseryRowLaw" 67 yMd_space ∈ gW := gm 768 (by decide +kernel) (by decide +kernel)
theorem l_Md_88 : Cond.methodLink "NurseryRowModel" 88 yMd_goes ∈ gW := gm 772 (by decide +kernel) (by decide +kernel)
theorem l_Lw_74 : Cond.methodLink "NurseryRowLaw" 74 yMd_limit ∈ gW := gm 776 (by decide +kernel) (by decide +kernel)
theorem l_Lw_78 : Cond.methodLink "NurseryRowLaw" 78 yMd_make ∈ gW := gm 780 (by decide +kernel) (by decide +kernel)
theorem l_Md_92 : Cond.methodLink "NurseryRowModel" 92 yMd_freeNumber ∈ gW := gm 784 (by decide +kernel) (by decide +kernel)
theorem l_Lw_81 : Cond.methodLink "NurseryRowLaw" 81 yMd_set ∈ gW := gm 788 (by decide +kernel) (by decide +kernel)
theorem l_Md_100 : Cond.methodLink "NurseryRowModel" 100 yMd_field ∈ gW := gm 792 (by decide +kernel) (by decide +kernel)
theorem l_Md_96 : Cond.methodLink "NurseryRowModel" 96 yMd_object ∈ gW := gm 796 (by decide +kernel) (by decide +kernel)
theorem l_Md_104 : Cond.methodLink "NurseryRowModel" 104 yMd_told ∈ gW := gm 800 (by decide +kernel) (by decide +kernel)
theorem l_Lw_84 : Cond.methodLink "NurseryRowLaw" 84 yMd_get ∈ gW := gm 804 (by decide +kernel) (by decide +kernel)
theorem l_Lw_87 : Cond.methodLink "NurseryRowLaw" 87 yMd_put ∈ gW := gm 808 (by decide +kernel) (by decide +kernel)
theorem l_Md_107 : Cond.methodLink "NurseryRowModel" 107 yMd_place ∈ gW := gm 812 (by decide +kernel) (by decide +kernel)
theorem l_Lw_90 : Cond.methodLink "NurseryRowLaw" 90 yMd_word ∈ gW := gm 816 (by decide +kernel) (by decide +kernel)
theorem l_Lw_93 : Cond.methodLink "NurseryRowLaw" 93 yMd_root ∈ gW := gm 820 (by decide +kernel) (by decide +kernel)
theorem l_Lw_96 : Cond.methodLink "NurseryRowLaw" 96 yMd_rooted ∈ gW := gm 824 (by decide +kernel) (by decide +kernel)
theorem l_Lw_100 : Cond.methodLink "NurseryRowLaw" 100 yMd_collect ∈ gW := gm 828 (by decide +kernel) (by decide +kernel)
theorem l_Md_116 : Cond.methodLink "NurseryRowModel" 116 yMd_find ∈ gW := gm 832 (by decide +kernel) (by decide +kernel)
theorem l_Md_110 : Cond.methodLink "NurseryRowModel" 110 yMd_size ∈ gW := gm 836 (by decide +kernel) (by decide +kernel)
theorem l_Md_120 : Cond.methodLink "NurseryRowModel" 120 yMd_findFields ∈ gW := gm 840 (by decide +kernel) (by decide +kernel)
theorem l_Md_123 : Cond.methodLink "NurseryRowModel" 123 yMd_tidy ∈ gW := gm 844 (by decide +kernel) (by decide +kernel)
theorem l_Lw_103 : Cond.methodLink "NurseryRowLaw" 103 yMd_about ∈ gW := gm 848 (by decide +kernel) (by decide +kernel)
theorem l_Lw_106 : Cond.methodLink "NurseryRowLaw" 106 yMd_next ∈ gW := gm 852 (by decide +kernel) (by decide +kernel)
theorem l_Lw_109 : Cond.methodLink "NurseryRowLaw" 109 yMd_count ∈ gW := gm 856 (by decide +kernel) (by decide +kernel)
theorem l_Md_126 : Cond.methodLink "NurseryRowModel" 126 yMd_many ∈ gW := gm 860 (by decide +kernel) (by decide +kernel)
theorem ka_int : Cond.arrayClass .int ∈ gW := gm 128 (by decide +kernel) (by decide +kernel)
theorem ka_boolean : Cond.arrayClass .boolean ∈ gW := gm 763 (by decide +kernel) (by decide +kernel)
theorem ka_long : Cond.arrayClass .long ∈ gW := gm 864 (by decide +kernel) (by decide +kernel)
theorem ko_i : Cond.instanceMethod objectInit ∈ gW := gm 59 (by decide +kernel) (by decide +kernel)
theorem ko_c : Cond.code objectInit ⟨#[0xb1]⟩ 1 none ∈ gW := gm 60 (by decide +kernel) (by decide +kernel)
