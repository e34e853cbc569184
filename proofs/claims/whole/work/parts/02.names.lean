/-! ===== names, by program (wip/gen/lay02.py): classes, methods, links, with the places of their words in lw_tbl ===== -/
def xT0 : u_T := fun k => match k with
  | 0 => ("DriftStore", "tape", "LDriftStore$Tape;", true)
  | 1 => ("DriftStore", "compiler", "LDriftStore$Compiler;", true)
  | 2 => ("DriftStore", "history", "LDriftStore$History;", true)
  | 3 => ("DriftStore", "servers", "[LDriftStore$Server;", true)
  | 4 => ("DriftStore", "sessions", "[LDriftStore$Session;", true)
  | _ => ("DriftStore", "latest", "LDriftStore$Program;", false)
def xty0 : Nat → FieldType := fun k => match k with
  | 0 => .object "DriftStore$Tape"
  | 1 => .object "DriftStore$Compiler"
  | 2 => .object "DriftStore$History"
  | 3 => .array (.object "DriftStore$Server")
  | 4 => .array (.object "DriftStore$Session")
  | _ => .object "DriftStore$Program"
def xT1 : u_T := fun k => match k with
  | 0 => ("DriftStore$Tape", "bytes", "[I", true)
  | _ => ("DriftStore$Tape", "length", "I", false)
def xty1 : Nat → FieldType := fun k => match k with
  | 0 => .array .int
  | _ => .int
def xT2 : u_T := fun k => match k with
  | 0 => ("DriftStore$Compiler", "tape", "LDriftStore$Tape;", true)
  | 1 => ("DriftStore$Compiler", "tokens", "LDriftStore$Tokens;", true)
  | 2 => ("DriftStore$Compiler", "steps", "[I", true)
  | 3 => ("DriftStore$Compiler", "operands", "[I", true)
  | 4 => ("DriftStore$Compiler", "size", "I", false)
  | 5 => ("DriftStore$Compiler", "at", "I", false)
  | 6 => ("DriftStore$Compiler", "parts", "I", false)
  | _ => ("DriftStore$Compiler", "fault", "I", false)
def xty2 : Nat → FieldType := fun k => match k with
  | 0 => .object "DriftStore$Tape"
  | 1 => .object "DriftStore$Tokens"
  | 2 => .array .int
  | 3 => .array .int
  | 4 => .int
  | 5 => .int
  | 6 => .int
  | _ => .int
def xT3 : u_T := fun k => match k with
  | 0 => ("DriftStore$Tokens", "kinds", "[I", true)
  | 1 => ("DriftStore$Tokens", "places", "[I", true)
  | 2 => ("DriftStore$Tokens", "numbers", "[I", true)
  | _ => ("DriftStore$Tokens", "size", "I", false)
def xty3 : Nat → FieldType := fun k => match k with
  | 0 => .array .int
  | 1 => .array .int
  | 2 => .array .int
  | _ => .int
def xT4 : u_T := fun k => match k with
  | 0 => ("DriftStore$History", "writes", "[LDriftStore$Write;", true)
  | 1 => ("DriftStore$History", "commits", "[I", true)
  | 2 => ("DriftStore$History", "taken", "I", false)
  | _ => ("DriftStore$History", "committed", "I", false)
def xty4 : Nat → FieldType := fun k => match k with
  | 0 => .array (.object "DriftStore$Write")
  | 1 => .array .int
  | 2 => .int
  | _ => .int
def xT5 : u_T := fun k => match k with
  | 0 => ("DriftStore$Machine", "values", "[I", true)
  | 1 => ("DriftStore$Machine", "targets", "[I", true)
  | 2 => ("DriftStore$Machine", "sums", "[I", true)
  | 3 => ("DriftStore$Machine", "depth", "I", false)
  | 4 => ("DriftStore$Machine", "effects", "I", false)
  | _ => ("DriftStore$Machine", "holds", "Z", false)
def xty5 : Nat → FieldType := fun k => match k with
  | 0 => .array .int
  | 1 => .array .int
  | 2 => .array .int
  | 3 => .int
  | 4 => .int
  | _ => .boolean
def xT6 : u_T := fun k => match k with
  | 0 => ("DriftStore$Server", "history", "LDriftStore$History;", true)
  | 1 => ("DriftStore$Server", "machine", "LDriftStore$Machine;", true)
  | 2 => ("DriftStore$Server", "vector", "[I", true)
  | 3 => ("DriftStore$Server", "known", "[Z", true)
  | 4 => ("DriftStore$Server", "tentative", "[I", true)
  | 5 => ("DriftStore$Server", "committedCells", "[I", true)
  | 6 => ("DriftStore$Server", "cells", "[I", true)
  | 7 => ("DriftStore$Server", "outcomes", "[I", true)
  | 8 => ("DriftStore$Server", "clock", "I", false)
  | 9 => ("DriftStore$Server", "committed", "I", false)
  | 10 => ("DriftStore$Server", "forgotten", "I", false)
  | 11 => ("DriftStore$Server", "tentatives", "I", false)
  | _ => ("DriftStore$Server", "done", "I", false)
def xty6 : Nat → FieldType := fun k => match k with
  | 0 => .object "DriftStore$History"
  | 1 => .object "DriftStore$Machine"
  | 2 => .array .int
  | 3 => .array .boolean
  | 4 => .array .int
  | 5 => .array .int
  | 6 => .array .int
  | 7 => .array .int
  | 8 => .int
  | 9 => .int
  | 10 => .int
  | 11 => .int
  | _ => .int
def xT7 : u_T := fun k => match k with
  | 0 => ("DriftStore$Session", "readVector", "[I", true)
  | 1 => ("DriftStore$Session", "writeVector", "[I", true)
  | _ => ("DriftStore$Session", "assurances", "I", false)
def xty7 : Nat → FieldType := fun k => match k with
  | 0 => .array .int
  | 1 => .array .int
  | _ => .int
def xT8 : u_T := fun k => match k with
  | 0 => ("DriftStore$Program", "steps", "[I", true)
  | _ => ("DriftStore$Program", "operands", "[I", true)
def xty8 : Nat → FieldType := fun k => match k with
  | 0 => .array .int
  | _ => .array .int
def xT9 : u_T := fun k => match k with
  | 0 => ("DriftStore$Write", "server", "I", true)
  | 1 => ("DriftStore$Write", "stamp", "I", true)
  | 2 => ("DriftStore$Write", "program", "LDriftStore$Program;", true)
  | _ => ("DriftStore$Write", "place", "I", false)
def xty9 : Nat → FieldType := fun k => match k with
  | 0 => .int
  | 1 => .int
  | 2 => .object "DriftStore$Program"
  | _ => .int
def xT10 : u_T := fun k => match k with
  | 0 => ("DriftStoreModel", "tape", "[B", true)
  | 1 => ("DriftStoreModel", "tapeMany", "I", false)
  | 2 => ("DriftStoreModel", "server", "[I", true)
  | 3 => ("DriftStoreModel", "stamp", "[I", true)
  | 4 => ("DriftStoreModel", "rank", "[I", true)
  | 5 => ("DriftStoreModel", "byRank", "[I", true)
  | 6 => ("DriftStoreModel", "what", "[[I", true)
  | 7 => ("DriftStoreModel", "writes", "I", false)
  | 8 => ("DriftStoreModel", "ranks", "I", false)
  | 9 => ("DriftStoreModel", "knows", "[[Z", true)
  | 10 => ("DriftStoreModel", "clock", "[I", true)
  | 11 => ("DriftStoreModel", "committed", "[I", true)
  | 12 => ("DriftStoreModel", "forgotten", "[I", true)
  | 13 => ("DriftStoreModel", "bits", "[I", true)
  | 14 => ("DriftStoreModel", "reads", "[[I", true)
  | 15 => ("DriftStoreModel", "writing", "[[I", true)
  | 16 => ("DriftStoreModel", "latest", "[I", false)
  | 17 => ("DriftStoreModel", "at", "I", false)
  | 18 => ("DriftStoreModel", "size", "I", false)
  | 19 => ("DriftStoreModel", "kind", "I", false)
  | 20 => ("DriftStoreModel", "from", "I", false)
  | 21 => ("DriftStoreModel", "to", "I", false)
  | 22 => ("DriftStoreModel", "fault", "I", false)
  | 23 => ("DriftStoreModel", "parts", "I", false)
  | 24 => ("DriftStoreModel", "number", "J", false)
  | 25 => ("DriftStoreModel", "code", "[I", true)
  | 26 => ("DriftStoreModel", "many", "I", false)
  | 27 => ("DriftStoreModel", "cells", "[I", true)
  | 28 => ("DriftStoreModel", "stack", "[I", true)
  | 29 => ("DriftStoreModel", "found", "[I", true)
  | 30 => ("DriftStoreModel", "goal", "[I", true)
  | 31 => ("DriftStoreModel", "pc", "I", false)
  | 32 => ("DriftStoreModel", "order", "[I", true)
  | _ => ("DriftStoreModel", "ordered", "I", false)
def xty10 : Nat → FieldType := fun k => match k with
  | 0 => .array .byte
  | 1 => .int
  | 2 => .array .int
  | 3 => .array .int
  | 4 => .array .int
  | 5 => .array .int
  | 6 => .array (.array .int)
  | 7 => .int
  | 8 => .int
  | 9 => .array (.array .boolean)
  | 10 => .array .int
  | 11 => .array .int
  | 12 => .array .int
  | 13 => .array .int
  | 14 => .array (.array .int)
  | 15 => .array (.array .int)
  | 16 => .array .int
  | 17 => .int
  | 18 => .int
  | 19 => .int
  | 20 => .int
  | 21 => .int
  | 22 => .int
  | 23 => .int
  | 24 => .long
  | 25 => .array .int
  | 26 => .int
  | 27 => .array .int
  | 28 => .array .int
  | 29 => .array .int
  | 30 => .array .int
  | 31 => .int
  | 32 => .array .int
  | _ => .int
abbrev xcl : List vw_C := [("DriftStore", xT0, 6), ("DriftStore$Tape", xT1, 2), ("DriftStore$Compiler", xT2, 8), ("DriftStore$Tokens", xT3, 4), ("DriftStore$History", xT4, 4), ("DriftStore$Machine", xT5, 6), ("DriftStore$Server", xT6, 13), ("DriftStore$Session", xT7, 3), ("DriftStore$Program", xT8, 2), ("DriftStore$Write", xT9, 4), ("DriftStoreModel", xT10, 34)]
def xtyL : List (Nat → FieldType) := [xty0, xty1, xty2, xty3, xty4, xty5, xty6, xty7, xty8, xty9, xty10]
def xtyOf (ci : Nat) : Nat → FieldType := xtyL.getD ci xty0
def xdefL : List (List Value) := [[.null, .null, .null, .null, .null, .null], [.null, .int 0], [.null, .null, .null, .null, .int 0, .int 0, .int 0, .int 0], [.null, .null, .null, .int 0], [.null, .null, .int 0, .int 0], [.null, .null, .null, .int 0, .int 0, .int 0], [.null, .null, .null, .null, .null, .null, .null, .null, .int 0, .int 0, .int 0, .int 0, .int 0], [.null, .null, .int 0], [.null, .null], [.int 0, .int 0, .null, .int 0], [.null, .int 0, .null, .null, .null, .null, .null, .int 0, .int 0, .null, .null, .null, .null, .null, .null, .null, .null, .int 0, .int 0, .int 0, .int 0, .int 0, .int 0, .int 0, .long 0, .null, .int 0, .null, .null, .null, .null, .int 0, .null, .int 0]]
def xdef (ci : Nat) : List Value := xdefL.getD ci []
def xonL : List String := ["DriftStore", "DriftStore$Tape", "DriftStore$Compiler", "DriftStore$Tokens", "DriftStore$History", "DriftStore$Machine", "DriftStore$Server", "DriftStore$Session", "DriftStore$Program", "DriftStore$Write", "DriftStoreModel", "java/util/Arrays", "DriftStoreLaw"]
def xon (o : Nat) : String := xonL.getD o ""
theorem xin0 : ∀ w ∈ u_ws "DriftStore" xT0 6, w ∈ lw_tbl := by
  intro w hw
  have h : u_ws "DriftStore" xT0 6 = [275, 277, 279, 281, 283, 285].filterMap (fun i => lw_tbl[i]?) := by decide +kernel
  rw [h] at hw
  obtain ⟨i, -, hi⟩ := List.mem_filterMap.mp hw
  exact List.mem_of_getElem? hi
theorem xnm0 : ∀ a, a < 6 → ∀ b, b < 6 → a ≠ b → (xT0 a).2.1 ≠ (xT0 b).2.1 := by decide +kernel
theorem xtk0 : ∀ k, k < 6 → parseFieldDescriptor (xT0 k).2.2.1 = some (xty0 k) := by decide +kernel
theorem xin1 : ∀ w ∈ u_ws "DriftStore$Tape" xT1 2, w ∈ lw_tbl := by
  intro w hw
  have h : u_ws "DriftStore$Tape" xT1 2 = [84, 86].filterMap (fun i => lw_tbl[i]?) := by decide +kernel
  rw [h] at hw
  obtain ⟨i, -, hi⟩ := List.mem_filterMap.mp hw
  exact List.mem_of_getElem? hi
theorem xnm1 : ∀ a, a < 2 → ∀ b, b < 2 → a ≠ b → (xT1 a).2.1 ≠ (xT1 b).2.1 := by decide +kernel
theorem xtk1 : ∀ k, k < 2 → parseFieldDescriptor (xT1 k).2.2.1 = some (xty1 k) := by decide +kernel
theorem xin2 : ∀ w ∈ u_ws "DriftStore$Compiler" xT2 8, w ∈ lw_tbl := by
  intro w hw
  have h : u_ws "DriftStore$Compiler" xT2 8 = [127, 129, 131, 133, 135, 137, 139, 141].filterMap (fun i => lw_tbl[i]?) := by decide +kernel
  rw [h] at hw
  obtain ⟨i, -, hi⟩ := List.mem_filterMap.mp hw
  exact List.mem_of_getElem? hi
theorem xnm2 : ∀ a, a < 8 → ∀ b, b < 8 → a ≠ b → (xT2 a).2.1 ≠ (xT2 b).2.1 := by decide +kernel
theorem xtk2 : ∀ k, k < 8 → parseFieldDescriptor (xT2 k).2.2.1 = some (xty2 k) := by decide +kernel
theorem xin3 : ∀ w ∈ u_ws "DriftStore$Tokens" xT3 4, w ∈ lw_tbl := by
  intro w hw
  have h : u_ws "DriftStore$Tokens" xT3 4 = [110, 112, 114, 116].filterMap (fun i => lw_tbl[i]?) := by decide +kernel
  rw [h] at hw
  obtain ⟨i, -, hi⟩ := List.mem_filterMap.mp hw
  exact List.mem_of_getElem? hi
theorem xnm3 : ∀ a, a < 4 → ∀ b, b < 4 → a ≠ b → (xT3 a).2.1 ≠ (xT3 b).2.1 := by decide +kernel
theorem xtk3 : ∀ k, k < 4 → parseFieldDescriptor (xT3 k).2.2.1 = some (xty3 k) := by decide +kernel
theorem xin4 : ∀ w ∈ u_ws "DriftStore$History" xT4 4, w ∈ lw_tbl := by
  intro w hw
  have h : u_ws "DriftStore$History" xT4 4 = [160, 162, 164, 166].filterMap (fun i => lw_tbl[i]?) := by decide +kernel
  rw [h] at hw
  obtain ⟨i, -, hi⟩ := List.mem_filterMap.mp hw
  exact List.mem_of_getElem? hi
theorem xnm4 : ∀ a, a < 4 → ∀ b, b < 4 → a ≠ b → (xT4 a).2.1 ≠ (xT4 b).2.1 := by decide +kernel
theorem xtk4 : ∀ k, k < 4 → parseFieldDescriptor (xT4 k).2.2.1 = some (xty4 k) := by decide +kernel
theorem xin5 : ∀ w ∈ u_ws "DriftStore$Machine" xT5 6, w ∈ lw_tbl := by
  intro w hw
  have h : u_ws "DriftStore$Machine" xT5 6 = [181, 183, 185, 187, 189, 191].filterMap (fun i => lw_tbl[i]?) := by decide +kernel
  rw [h] at hw
  obtain ⟨i, -, hi⟩ := List.mem_filterMap.mp hw
  exact List.mem_of_getElem? hi
theorem xnm5 : ∀ a, a < 6 → ∀ b, b < 6 → a ≠ b → (xT5 a).2.1 ≠ (xT5 b).2.1 := by decide +kernel
theorem xtk5 : ∀ k, k < 6 → parseFieldDescriptor (xT5 k).2.2.1 = some (xty5 k) := by decide +kernel
theorem xin6 : ∀ w ∈ u_ws "DriftStore$Server" xT6 13, w ∈ lw_tbl := by
  intro w hw
  have h : u_ws "DriftStore$Server" xT6 13 = [221, 223, 225, 227, 229, 231, 233, 235, 237, 239, 241, 243, 245].filterMap (fun i => lw_tbl[i]?) := by decide +kernel
  rw [h] at hw
  obtain ⟨i, -, hi⟩ := List.mem_filterMap.mp hw
  exact List.mem_of_getElem? hi
theorem xnm6 : ∀ a, a < 13 → ∀ b, b < 13 → a ≠ b → (xT6 a).2.1 ≠ (xT6 b).2.1 := by decide +kernel
theorem xtk6 : ∀ k, k < 13 → parseFieldDescriptor (xT6 k).2.2.1 = some (xty6 k) := by decide +kernel
theorem xin7 : ∀ w ∈ u_ws "DriftStore$Session" xT7 3, w ∈ lw_tbl := by
  intro w hw
  have h : u_ws "DriftStore$Session" xT7 3 = [262, 264, 266].filterMap (fun i => lw_tbl[i]?) := by decide +kernel
  rw [h] at hw
  obtain ⟨i, -, hi⟩ := List.mem_filterMap.mp hw
  exact List.mem_of_getElem? hi
theorem xnm7 : ∀ a, a < 3 → ∀ b, b < 3 → a ≠ b → (xT7 a).2.1 ≠ (xT7 b).2.1 := by decide +kernel
theorem xtk7 : ∀ k, k < 3 → parseFieldDescriptor (xT7 k).2.2.1 = some (xty7 k) := by decide +kernel
theorem xin8 : ∀ w ∈ u_ws "DriftStore$Program" xT8 2, w ∈ lw_tbl := by
  intro w hw
  have h : u_ws "DriftStore$Program" xT8 2 = [470, 472].filterMap (fun i => lw_tbl[i]?) := by decide +kernel
  rw [h] at hw
  obtain ⟨i, -, hi⟩ := List.mem_filterMap.mp hw
  exact List.mem_of_getElem? hi
theorem xnm8 : ∀ a, a < 2 → ∀ b, b < 2 → a ≠ b → (xT8 a).2.1 ≠ (xT8 b).2.1 := by decide +kernel
theorem xtk8 : ∀ k, k < 2 → parseFieldDescriptor (xT8 k).2.2.1 = some (xty8 k) := by decide +kernel
theorem xin9 : ∀ w ∈ u_ws "DriftStore$Write" xT9 4, w ∈ lw_tbl := by
  intro w hw
  have h : u_ws "DriftStore$Write" xT9 4 = [520, 522, 524, 526].filterMap (fun i => lw_tbl[i]?) := by decide +kernel
  rw [h] at hw
  obtain ⟨i, -, hi⟩ := List.mem_filterMap.mp hw
  exact List.mem_of_getElem? hi
theorem xnm9 : ∀ a, a < 4 → ∀ b, b < 4 → a ≠ b → (xT9 a).2.1 ≠ (xT9 b).2.1 := by decide +kernel
theorem xtk9 : ∀ k, k < 4 → parseFieldDescriptor (xT9 k).2.2.1 = some (xty9 k) := by decide +kernel
theorem xin10 : ∀ w ∈ u_ws "DriftStoreModel" xT10 34, w ∈ lw_tbl := by
  intro w hw
  have h : u_ws "DriftStoreModel" xT10 34 = [735, 737, 739, 741, 743, 745, 747, 749, 751, 753, 755, 757, 759, 761, 763, 765, 767, 769, 771, 773, 775, 777, 779, 781, 783, 785, 787, 789, 791, 793, 795, 797, 799, 801].filterMap (fun i => lw_tbl[i]?) := by decide +kernel
  rw [h] at hw
  obtain ⟨i, -, hi⟩ := List.mem_filterMap.mp hw
  exact List.mem_of_getElem? hi
theorem xnm10 : ∀ a, a < 34 → ∀ b, b < 34 → a ≠ b → (xT10 a).2.1 ≠ (xT10 b).2.1 := by decide +kernel
theorem xtk10 : ∀ k, k < 34 → parseFieldDescriptor (xT10 k).2.2.1 = some (xty10 k) := by decide +kernel
/-- a method: its name, code, locals, answer, own class, parameters, the place of its word -/
abbrev xMR : Type := MethodName × ByteArray × Nat × Option FieldType × Nat × Nat × Nat
def xTab : List xMR := [(⟨"DriftStore", "<init>", "()V"⟩, prog_1_method_1_code, 3, none, 0, 0, 69),
  (⟨"DriftStore", "feed", "(IIIII)I"⟩, prog_1_method_2_code, 6, (some .int), 0, 5, 291),
  (⟨"DriftStore", "end", "(I)I"⟩, prog_1_method_3_code, 2, (some .int), 0, 1, 299),
  (⟨"DriftStore", "program", "()I"⟩, prog_1_method_4_code, 2, (some .int), 0, 0, 303),
  (⟨"DriftStore", "isCell", "(I)Z"⟩, prog_1_method_20_code, 1, (some .boolean), 0, 1, 431),
  (⟨"DriftStore", "write", "(III)I"⟩, prog_1_method_5_code, 8, (some .int), 0, 3, 479),
  (⟨"DriftStore", "isServer", "(I)Z"⟩, prog_1_method_18_code, 1, (some .boolean), 0, 1, 482),
  (⟨"DriftStore", "isSession", "(I)Z"⟩, prog_1_method_19_code, 1, (some .boolean), 0, 1, 485),
  (⟨"DriftStore", "read", "(IIIZ)J"⟩, prog_1_method_6_code, 7, (some .long), 0, 4, 545),
  (⟨"DriftStore", "assure", "(IIZ)I"⟩, prog_1_method_7_code, 6, (some .int), 0, 3, 602),
  (⟨"DriftStore", "commit", "(I)I"⟩, prog_1_method_8_code, 5, (some .int), 0, 1, 613),
  (⟨"DriftStore", "meet", "(III)I"⟩, prog_1_method_9_code, 7, (some .int), 0, 3, 631),
  (⟨"DriftStore", "forget", "(II)I"⟩, prog_1_method_10_code, 4, (some .int), 0, 2, 649),
  (⟨"DriftStore", "cell", "(IIZ)J"⟩, prog_1_method_11_code, 4, (some .long), 0, 3, 653),
  (⟨"DriftStore", "order", "(II)I"⟩, prog_1_method_12_code, 3, (some .int), 0, 2, 657),
  (⟨"DriftStore", "outcome", "(II)I"⟩, prog_1_method_13_code, 3, (some .int), 0, 2, 665),
  (⟨"DriftStore", "look", "(II)I"⟩, prog_1_method_14_code, 4, (some .int), 0, 2, 677),
  (⟨"DriftStore", "stamp", "(III)I"⟩, prog_1_method_15_code, 4, (some .int), 0, 3, 681),
  (⟨"DriftStore", "count", "(II)I"⟩, prog_1_method_16_code, 4, (some .int), 0, 2, 685),
  (⟨"DriftStore", "writes", "()I"⟩, prog_1_method_17_code, 1, (some .int), 0, 0, 689),
  (⟨"DriftStore$Tape", "<init>", "()V"⟩, prog_9_method_1_code, 1, none, 1, 0, 77),
  (⟨"DriftStore$Tape", "addInt", "(I)V"⟩, prog_9_method_2_code, 3, none, 1, 1, 295),
  (⟨"DriftStore$Compiler", "<init>", "(LDriftStore$Tape;)V"⟩, prog_2_method_1_code, 2, none, 2, 1, 94),
  (⟨"DriftStore$Compiler", "compile", "()I"⟩, prog_2_method_2_code, 3, (some .int), 2, 0, 307),
  (⟨"DriftStore$Compiler", "accept", "(I)Z"⟩, prog_2_method_11_code, 2, (some .boolean), 2, 1, 396),
  (⟨"DriftStore$Compiler", "parseTest", "()V"⟩, prog_2_method_4_code, 4, none, 2, 0, 400),
  (⟨"DriftStore$Compiler", "parseSum", "(I)V"⟩, prog_2_method_6_code, 5, none, 2, 1, 404),
  (⟨"DriftStore$Compiler", "parseTerm", "(I)V"⟩, prog_2_method_7_code, 4, none, 2, 1, 408),
  (⟨"DriftStore$Compiler", "parsePart", "(I)V"⟩, prog_2_method_8_code, 3, none, 2, 1, 412),
  (⟨"DriftStore$Compiler", "require", "(I)V"⟩, prog_2_method_12_code, 2, none, 2, 1, 416),
  (⟨"DriftStore$Compiler", "fail", "()V"⟩, prog_2_method_13_code, 1, none, 2, 0, 420),
  (⟨"DriftStore$Compiler", "kind", "()I"⟩, prog_2_method_10_code, 1, (some .int), 2, 0, 424),
  (⟨"DriftStore$Compiler", "parseCellNumber", "()I"⟩, prog_2_method_9_code, 2, (some .int), 2, 0, 428),
  (⟨"DriftStore$Compiler", "emit", "(II)V"⟩, prog_2_method_14_code, 3, none, 2, 2, 435),
  (⟨"DriftStore$Compiler", "parseEffects", "()V"⟩, prog_2_method_5_code, 4, none, 2, 0, 439),
  (⟨"DriftStore$Compiler", "compiled", "()LDriftStore$Program;"⟩, prog_2_method_3_code, 1, (some (.object "DriftStore$Program")), 2, 0, 443),
  (⟨"DriftStore$Tokens", "<init>", "()V"⟩, prog_10_method_1_code, 1, none, 3, 0, 100),
  (⟨"DriftStore$Tokens", "scan", "(LDriftStore$Tape;)V"⟩, prog_10_method_2_code, 5, none, 3, 1, 311),
  (⟨"DriftStore$Tokens", "skipBlanks", "(LDriftStore$Tape;I)I"⟩, prog_10_method_3_code, 3, (some .int), 3, 2, 314),
  (⟨"DriftStore$Tokens", "scanToken", "(LDriftStore$Tape;I)I"⟩, prog_10_method_4_code, 5, (some .int), 3, 2, 318),
  (⟨"DriftStore$Tokens", "scanWord", "(LDriftStore$Tape;I)I"⟩, prog_10_method_5_code, 4, (some .int), 3, 2, 322),
  (⟨"DriftStore$Tokens", "kindOfWord", "(LDriftStore$Tape;II)I"⟩, prog_10_method_7_code, 3, (some .int), 3, 3, 325),
  (⟨"DriftStore$Tokens", "spells", "(LDriftStore$Tape;IILjava/lang/String;)Z"⟩, prog_10_method_8_code, 5, (some .boolean), 3, 4, 329),
  (⟨"DriftStore$Tokens", "scanNumber", "(LDriftStore$Tape;I)I"⟩, prog_10_method_6_code, 7, (some .int), 3, 2, 387),
  (⟨"DriftStore$Tokens", "kindOfSign", "(I)I"⟩, prog_10_method_9_code, 1, (some .int), 3, 1, 392),
  (⟨"DriftStore$History", "<init>", "()V"⟩, prog_3_method_1_code, 1, none, 4, 0, 148),
  (⟨"DriftStore$History", "add", "(LDriftStore$Write;)I"⟩, prog_3_method_3_code, 2, (some .int), 4, 1, 532),
  (⟨"DriftStore$History", "commitNext", "(I)V"⟩, prog_3_method_4_code, 2, none, 4, 1, 618),
  (⟨"DriftStore$History", "has", "(I)Z"⟩, prog_3_method_2_code, 2, (some .boolean), 4, 1, 669),
  (⟨"DriftStore$Machine", "<init>", "()V"⟩, prog_5_method_1_code, 1, none, 5, 0, 173),
  (⟨"DriftStore$Machine", "perform", "(LDriftStore$Write;[I)I"⟩, prog_5_method_2_code, 6, (some .int), 5, 2, 570),
  (⟨"DriftStore$Machine", "beginRule", "()V"⟩, prog_5_method_3_code, 1, none, 5, 0, 574),
  (⟨"DriftStore$Machine", "doStep", "(IILDriftStore$Write;[I)V"⟩, prog_5_method_4_code, 5, none, 5, 4, 578),
  (⟨"DriftStore$Machine", "push", "(I)V"⟩, prog_5_method_8_code, 2, none, 5, 1, 582),
  (⟨"DriftStore$Machine", "keepEffect", "(I)V"⟩, prog_5_method_6_code, 3, none, 5, 1, 586),
  (⟨"DriftStore$Machine", "pop", "()I"⟩, prog_5_method_9_code, 1, (some .int), 5, 0, 590),
  (⟨"DriftStore$Machine", "combine", "(I)V"⟩, prog_5_method_5_code, 4, none, 5, 1, 594),
  (⟨"DriftStore$Machine", "changeCells", "([I)V"⟩, prog_5_method_7_code, 3, none, 5, 1, 598),
  (⟨"DriftStore$Server", "<init>", "(LDriftStore$History;LDriftStore$Machine;)V"⟩, prog_7_method_1_code, 3, none, 6, 2, 199),
  (⟨"DriftStore$Server", "learn", "(I)V"⟩, prog_7_method_2_code, 4, none, 6, 1, 536),
  (⟨"DriftStore$Server", "valueOf", "(IZ)I"⟩, prog_7_method_9_code, 3, (some .int), 6, 2, 561),
  (⟨"DriftStore$Server", "catchUp", "()V"⟩, prog_7_method_10_code, 3, none, 6, 0, 565),
  (⟨"DriftStore$Server", "learnNextCommit", "()V"⟩, prog_7_method_3_code, 2, none, 6, 0, 622),
  (⟨"DriftStore$Server", "removeTentative", "(I)V"⟩, prog_7_method_11_code, 3, none, 6, 1, 627),
  (⟨"DriftStore$Server", "learnForgotten", "(I)V"⟩, prog_7_method_4_code, 3, none, 6, 1, 635),
  (⟨"DriftStore$Server", "learnCommits", "(LDriftStore$Server;I)I"⟩, prog_7_method_5_code, 5, (some .int), 6, 2, 640),
  (⟨"DriftStore$Server", "learnTentative", "(LDriftStore$Server;I)I"⟩, prog_7_method_6_code, 5, (some .int), 6, 2, 645),
  (⟨"DriftStore$Server", "writeAt", "(I)I"⟩, prog_7_method_7_code, 2, (some .int), 6, 1, 661),
  (⟨"DriftStore$Server", "outcomeOf", "(I)I"⟩, prog_7_method_8_code, 2, (some .int), 6, 1, 673),
  (⟨"DriftStore$Session", "<init>", "()V"⟩, prog_8_method_1_code, 1, none, 7, 0, 254),
  (⟨"DriftStore$Session", "mayWriteAt", "(LDriftStore$Server;)Z"⟩, prog_8_method_2_code, 2, (some .boolean), 7, 1, 490),
  (⟨"DriftStore$Session", "assures", "(I)Z"⟩, prog_8_method_6_code, 2, (some .boolean), 7, 1, 494),
  (⟨"DriftStore$Session", "isAtLeast", "([I[I)Z"⟩, prog_8_method_7_code, 3, (some .boolean), 7, 2, 497),
  (⟨"DriftStore$Session", "mayReadAt", "(LDriftStore$Server;)Z"⟩, prog_8_method_3_code, 2, (some .boolean), 7, 1, 551),
  (⟨"DriftStore$Session", "hasReadAt", "(LDriftStore$Server;)V"⟩, prog_8_method_4_code, 3, none, 7, 1, 556),
  (⟨"DriftStore$Session", "clearVectors", "()V"⟩, prog_8_method_5_code, 1, none, 7, 0, 606),
  (⟨"DriftStore$Program", "<init>", "([I[I)V"⟩, prog_6_method_1_code, 3, none, 8, 2, 464),
  (⟨"DriftStore$Write", "<init>", "(IILDriftStore$Program;)V"⟩, prog_11_method_1_code, 4, none, 9, 3, 505),
  (⟨"DriftStore$Write", "comesBefore", "(LDriftStore$Write;)Z"⟩, prog_11_method_2_code, 2, (some .boolean), 9, 1, 541),
  (⟨"DriftStoreModel", "<init>", "()V"⟩, prog_13_method_2_code, 1, none, 10, 0, 694),
  (⟨"DriftStoreModel", "feed", "(IIIII)I"⟩, prog_13_method_3_code, 8, (some .int), 10, 5, 807),
  (⟨"DriftStoreModel", "end", "(I)I"⟩, prog_13_method_4_code, 2, (some .int), 10, 1, 811),
  (⟨"DriftStoreModel", "in", "(JJJ)Z"⟩, prog_13_method_1_code, 6, (some .boolean), 10, 3, 814),
  (⟨"DriftStoreModel", "program", "()I"⟩, prog_13_method_12_code, 2, (some .int), 10, 0, 818),
  (⟨"DriftStoreModel", "step", "()V"⟩, prog_13_method_7_code, 3, none, 10, 0, 822),
  (⟨"DriftStoreModel", "isLetter", "(I)Z"⟩, prog_13_method_5_code, 1, (some .boolean), 10, 1, 825),
  (⟨"DriftStoreModel", "is", "(Ljava/lang/String;)Z"⟩, prog_13_method_8_code, 3, (some .boolean), 10, 1, 830),
  (⟨"DriftStoreModel", "isDigit", "(I)Z"⟩, prog_13_method_6_code, 1, (some .boolean), 10, 1, 841),
  (⟨"DriftStoreModel", "rule", "()Z"⟩, prog_13_method_13_code, 4, (some .boolean), 10, 0, 852),
  (⟨"DriftStoreModel", "bad", "()Z"⟩, prog_13_method_9_code, 1, (some .boolean), 10, 0, 856),
  (⟨"DriftStoreModel", "put", "(I)V"⟩, prog_13_method_11_code, 2, none, 10, 1, 860),
  (⟨"DriftStoreModel", "compare", "()Z"⟩, prog_13_method_15_code, 2, (some .boolean), 10, 0, 864),
  (⟨"DriftStoreModel", "whole", "()Z"⟩, prog_13_method_16_code, 1, (some .boolean), 10, 0, 868),
  (⟨"DriftStoreModel", "sum", "(I)Z"⟩, prog_13_method_17_code, 3, (some .boolean), 10, 1, 872),
  (⟨"DriftStoreModel", "term", "(I)Z"⟩, prog_13_method_18_code, 2, (some .boolean), 10, 1, 876),
  (⟨"DriftStoreModel", "part", "(I)Z"⟩, prog_13_method_19_code, 2, (some .boolean), 10, 1, 880),
  (⟨"DriftStoreModel", "take", "(Ljava/lang/String;)Z"⟩, prog_13_method_10_code, 2, (some .boolean), 10, 1, 886),
  (⟨"DriftStoreModel", "cell", "()Z"⟩, prog_13_method_14_code, 1, (some .boolean), 10, 0, 890),
  (⟨"DriftStoreModel", "write", "(III)I"⟩, prog_13_method_30_code, 4, (some .int), 10, 3, 905),
  (⟨"DriftStoreModel", "isAtLeast", "(I[I)Z"⟩, prog_13_method_28_code, 4, (some .boolean), 10, 2, 912),
  (⟨"DriftStoreModel", "vector", "(II)I"⟩, prog_13_method_27_code, 5, (some .int), 10, 2, 916),
  (⟨"DriftStoreModel", "read", "(IIIZ)J"⟩, prog_13_method_31_code, 6, (some .long), 10, 4, 921),
  (⟨"DriftStoreModel", "cell", "(IIZ)J"⟩, prog_13_method_36_code, 4, (some .long), 10, 3, 927),
  (⟨"DriftStoreModel", "run", "(IZ)V"⟩, prog_13_method_26_code, 5, none, 10, 2, 931),
  (⟨"DriftStoreModel", "arrange", "(I)V"⟩, prog_13_method_25_code, 4, none, 10, 1, 935),
  (⟨"DriftStoreModel", "isCommitted", "(II)Z"⟩, prog_13_method_23_code, 3, (some .boolean), 10, 2, 939),
  (⟨"DriftStoreModel", "isBefore", "(II)Z"⟩, prog_13_method_24_code, 3, (some .boolean), 10, 2, 943),
  (⟨"DriftStoreModel", "perform", "(I)I"⟩, prog_13_method_22_code, 6, (some .int), 10, 1, 948),
  (⟨"DriftStoreModel", "holds", "(I)Z"⟩, prog_13_method_21_code, 9, (some .boolean), 10, 1, 952),
  (⟨"DriftStoreModel", "value", "(I)I"⟩, prog_13_method_20_code, 5, (some .int), 10, 1, 956),
  (⟨"DriftStoreModel", "assure", "(IIZ)I"⟩, prog_13_method_32_code, 5, (some .int), 10, 3, 960),
  (⟨"DriftStoreModel", "commit", "(I)I"⟩, prog_13_method_33_code, 4, (some .int), 10, 1, 965),
  (⟨"DriftStoreModel", "meet", "(III)I"⟩, prog_13_method_34_code, 7, (some .int), 10, 3, 969),
  (⟨"DriftStoreModel", "learn", "(II)V"⟩, prog_13_method_29_code, 3, none, 10, 2, 973),
  (⟨"DriftStoreModel", "forget", "(II)I"⟩, prog_13_method_35_code, 3, (some .int), 10, 2, 977),
  (⟨"DriftStoreModel", "order", "(II)I"⟩, prog_13_method_37_code, 3, (some .int), 10, 2, 982),
  (⟨"DriftStoreModel", "outcome", "(II)I"⟩, prog_13_method_38_code, 5, (some .int), 10, 2, 986),
  (⟨"DriftStoreModel", "look", "(II)I"⟩, prog_13_method_39_code, 3, (some .int), 10, 2, 990),
  (⟨"DriftStoreModel", "stamp", "(III)I"⟩, prog_13_method_40_code, 4, (some .int), 10, 3, 995),
  (⟨"DriftStoreModel", "count", "(II)I"⟩, prog_13_method_41_code, 5, (some .int), 10, 2, 999),
  (⟨"DriftStoreModel", "writes", "()I"⟩, prog_13_method_42_code, 1, (some .int), 10, 0, 1004),
  (⟨"java/util/Arrays", "copyOf", "([II)[I"⟩, prog_20_method_123_code, 3, (some (.array .int)), 11, 2, 448),
  (⟨"java/util/Arrays", "fill", "([II)V"⟩, prog_20_method_103_code, 4, none, 11, 2, 609),
  (⟨"DriftStoreLaw", "law", "([I)Z"⟩, code, 4, (some .boolean), 12, 1, 0)]
def xRow (mi : Nat) : xMR := xTab.getD mi (⟨"", "", ""⟩, code, 0, none, 0, 0, 0)
def xP (mi : Nat) := (xRow mi).2.2.2.2.2.2
def xY (mi : Nat) := (xRow mi).1
def xB (mi : Nat) := (xRow mi).2.1
def xM (mi : Nat) := (xRow mi).2.2.1
def xT (mi : Nat) := (xRow mi).2.2.2.1
def xO (mi : Nat) := (xRow mi).2.2.2.2.1
def xA (mi : Nat) := (xRow mi).2.2.2.2.2.1
/-- a field link: own class, place in its pool, the class that has the field, its number; by the nest; the place of its word -/
def xFt : List (Nat × Nat × Nat × Nat × Nat × Nat) := [(1, 9, 1, 0, 0, 79), (3, 39, 1, 0, 1, 80), (1, 15, 1, 1, 0, 81), (0, 55, 1, 1, 1, 82), (3, 34, 1, 1, 1, 83), (3, 9, 3, 0, 0, 102), (2, 104, 3, 0, 1, 103), (3, 15, 3, 1, 0, 104), (2, 108, 3, 1, 1, 105), (3, 18, 3, 2, 0, 106), (2, 98, 3, 2, 1, 107), (3, 21, 3, 3, 0, 108), (2, 107, 3, 3, 1, 109), (2, 38, 2, 0, 0, 119), (2, 14, 2, 1, 0, 120), (2, 18, 2, 2, 0, 121), (2, 22, 2, 3, 0, 122), (2, 25, 2, 4, 0, 123), (2, 29, 2, 5, 0, 124), (2, 32, 2, 6, 0, 125), (2, 35, 2, 7, 0, 126), (4, 11, 4, 0, 0, 152), (6, 55, 4, 0, 1, 153), (0, 176, 4, 0, 1, 154), (4, 17, 4, 1, 0, 155), (6, 79, 4, 1, 1, 156), (4, 21, 4, 2, 0, 157), (0, 79, 4, 2, 1, 158), (4, 25, 4, 3, 0, 159), (5, 9, 5, 0, 0, 175), (5, 13, 5, 1, 0, 176), (5, 16, 5, 2, 0, 177), (5, 19, 5, 3, 0, 178), (5, 23, 5, 4, 0, 179), (5, 26, 5, 5, 0, 180), (6, 47, 6, 0, 0, 201), (6, 51, 6, 1, 0, 202), (6, 9, 6, 2, 0, 203), (7, 26, 6, 2, 1, 204), (0, 189, 6, 2, 1, 205), (6, 15, 6, 3, 0, 206), (6, 19, 6, 4, 0, 207), (0, 141, 6, 4, 1, 208), (6, 22, 6, 5, 0, 209), (6, 25, 6, 6, 0, 210), (6, 28, 6, 7, 0, 211), (6, 31, 6, 8, 0, 212), (0, 86, 6, 8, 1, 213), (6, 35, 6, 9, 0, 214), (0, 153, 6, 9, 1, 215), (6, 38, 6, 10, 0, 216), (0, 150, 6, 10, 1, 217), (6, 41, 6, 11, 0, 218), (0, 135, 6, 11, 1, 219), (6, 44, 6, 12, 0, 220), (7, 9, 7, 0, 0, 256), (0, 192, 7, 0, 1, 257), (7, 15, 7, 1, 0, 258), (0, 107, 7, 1, 1, 259), (7, 18, 7, 2, 0, 260), (0, 129, 7, 2, 1, 261), (0, 12, 0, 0, 0, 269), (0, 21, 0, 1, 0, 270), (0, 28, 0, 2, 0, 271), (0, 37, 0, 3, 0, 272), (0, 46, 0, 4, 0, 273), (0, 51, 0, 5, 0, 274), (8, 7, 8, 0, 0, 466), (5, 39, 8, 0, 1, 467), (8, 13, 8, 1, 0, 468), (5, 44, 8, 1, 1, 469), (9, 13, 9, 0, 0, 507), (6, 72, 9, 0, 1, 508), (5, 59, 9, 0, 1, 509), (0, 180, 9, 0, 1, 510), (9, 16, 9, 1, 0, 511), (6, 61, 9, 1, 1, 512), (5, 62, 9, 1, 1, 513), (0, 183, 9, 1, 1, 514), (9, 19, 9, 2, 0, 515), (5, 30, 9, 2, 1, 516), (9, 7, 9, 3, 0, 517), (4, 28, 9, 3, 1, 518), (0, 186, 9, 3, 1, 519), (10, 9, 10, 0, 0, 701), (10, 73, 10, 1, 0, 702), (10, 13, 10, 2, 0, 703), (10, 17, 10, 3, 0, 704), (10, 20, 10, 4, 0, 705), (10, 23, 10, 5, 0, 706), (10, 27, 10, 6, 0, 707), (10, 239, 10, 7, 0, 708), (10, 285, 10, 8, 0, 709), (10, 33, 10, 9, 0, 710), (10, 36, 10, 10, 0, 711), (10, 39, 10, 11, 0, 712), (10, 42, 10, 12, 0, 713), (10, 45, 10, 13, 0, 714), (10, 49, 10, 14, 0, 715), (10, 52, 10, 15, 0, 716), (10, 174, 10, 16, 0, 717), (10, 81, 10, 17, 0, 718), (10, 84, 10, 18, 0, 719), (10, 90, 10, 19, 0, 720), (10, 87, 10, 20, 0, 721), (10, 97, 10, 21, 0, 722), (10, 149, 10, 22, 0, 723), (10, 162, 10, 23, 0, 724), (10, 119, 10, 24, 0, 725), (10, 55, 10, 25, 0, 726), (10, 159, 10, 26, 0, 727), (10, 58, 10, 27, 0, 728), (10, 61, 10, 28, 0, 729), (10, 64, 10, 29, 0, 730), (10, 67, 10, 30, 0, 731), (10, 226, 10, 31, 0, 732), (10, 70, 10, 32, 0, 733), (10, 236, 10, 33, 0, 734)]
def xFl (o i : Nat) : Option (Nat × Nat × Nat × Nat × Nat × Nat) := xFt.find? (fun q => q.1 == o && q.2.1 == i)
/-- a call link: own class, place in its pool, kind (0 virtual, 1 static, 2 constructor, 3 and 4 these by the nest, 5 Object(), 6 max, 7 min, 8 min of longs, 9 arraycopy, 10 length, 11 charAt), the method; places of its words -/
def xCt : List (Nat × Nat × Nat × Nat × Nat × Nat × Nat) := [(12, 9, 2, 0, 67, 68, 0), (0, 3, 5, 0, 70, 0, 0), (0, 11, 3, 20, 75, 76, 0), (1, 3, 5, 0, 78, 0, 0), (0, 18, 2, 22, 92, 93, 0), (2, 5, 5, 0, 95, 0, 0), (2, 13, 3, 36, 98, 99, 0), (3, 3, 5, 0, 101, 0, 0), (0, 27, 3, 45, 146, 147, 0), (4, 3, 5, 0, 149, 0, 0), (0, 34, 3, 49, 171, 172, 0), (5, 1, 5, 0, 174, 0, 0), (0, 41, 2, 58, 197, 198, 0), (6, 3, 5, 0, 200, 0, 0), (0, 50, 3, 69, 252, 253, 0), (7, 3, 5, 0, 255, 0, 0), (12, 13, 0, 1, 288, 289, 290), (0, 59, 0, 21, 292, 293, 294), (12, 18, 0, 2, 296, 297, 298), (12, 23, 0, 3, 300, 301, 302), (0, 63, 0, 23, 304, 305, 306), (2, 42, 0, 37, 308, 309, 310), (3, 25, 1, 38, 312, 313, 0), (3, 29, 0, 39, 315, 317, 0), (3, 42, 0, 40, 319, 321, 1), (3, 52, 1, 41, 323, 324, 0), (3, 64, 1, 42, 327, 328, 0), (3, 80, 10, 0, 330, 0, 0), (3, 85, 11, 0, 340, 0, 0), (3, 45, 0, 43, 384, 386, 2), (3, 48, 1, 44, 390, 391, 0), (2, 48, 0, 24, 393, 395, 3), (2, 52, 0, 25, 397, 399, 4), (2, 80, 0, 26, 401, 403, 5), (2, 92, 0, 27, 405, 407, 6), (2, 95, 0, 28, 409, 411, 7), (2, 84, 0, 29, 413, 415, 8), (2, 68, 0, 30, 417, 419, 9), (2, 64, 0, 31, 421, 423, 10), (2, 89, 0, 32, 425, 427, 11), (2, 101, 4, 4, 429, 430, 0), (2, 60, 0, 33, 432, 434, 12), (2, 55, 0, 34, 436, 438, 13), (0, 67, 0, 35, 440, 441, 442), (2, 71, 1, 121, 446, 447, 0), (11, 304, 7, 0, 456, 0, 0), (11, 150, 9, 0, 459, 0, 0), (2, 77, 2, 76, 462, 463, 0), (8, 1, 5, 0, 465, 0, 0), (12, 28, 0, 5, 476, 477, 478), (0, 71, 1, 6, 480, 481, 0), (0, 75, 1, 7, 483, 484, 0), (0, 82, 0, 70, 487, 488, 489), (7, 22, 0, 71, 491, 493, 14), (7, 31, 1, 72, 495, 496, 0), (0, 89, 6, 0, 498, 0, 0), (0, 97, 2, 77, 503, 504, 0), (9, 1, 5, 0, 506, 0, 0), (0, 100, 0, 46, 529, 530, 531), (0, 104, 0, 59, 533, 534, 535), (6, 66, 6, 0, 537, 0, 0), (6, 75, 0, 78, 538, 539, 540), (12, 33, 0, 8, 542, 543, 544), (0, 111, 1, 4, 546, 430, 0), (0, 116, 0, 73, 548, 549, 550), (0, 121, 0, 74, 553, 554, 555), (7, 35, 6, 0, 557, 0, 0), (0, 125, 0, 60, 558, 559, 560), (6, 101, 0, 61, 562, 564, 15), (6, 104, 9, 0, 566, 0, 0), (6, 89, 0, 50, 567, 568, 569), (5, 36, 0, 51, 571, 573, 16), (5, 47, 0, 52, 575, 577, 17), (5, 55, 0, 53, 579, 581, 18), (5, 65, 0, 54, 583, 585, 19), (5, 71, 0, 55, 587, 589, 20), (5, 68, 0, 56, 591, 593, 21), (5, 51, 0, 57, 595, 597, 22), (12, 38, 0, 9, 599, 600, 601), (0, 132, 0, 75, 603, 604, 605), (7, 41, 1, 122, 607, 608, 0), (12, 43, 0, 10, 610, 611, 612), (0, 138, 7, 0, 614, 0, 0), (0, 144, 0, 47, 615, 616, 617), (0, 147, 0, 62, 619, 620, 621), (6, 82, 0, 59, 623, 534, 535), (6, 86, 0, 63, 624, 626, 23), (12, 47, 0, 11, 628, 629, 630), (0, 156, 0, 64, 632, 633, 634), (6, 95, 0, 62, 636, 620, 621), (0, 159, 0, 65, 637, 638, 639), (6, 98, 7, 0, 641, 0, 0), (0, 163, 0, 66, 642, 643, 644), (12, 51, 0, 12, 646, 647, 648), (12, 56, 0, 13, 650, 651, 652), (12, 61, 0, 14, 654, 655, 656), (0, 166, 0, 67, 658, 659, 660), (12, 65, 0, 15, 662, 663, 664), (0, 170, 0, 48, 666, 667, 668), (0, 173, 0, 68, 670, 671, 672), (12, 69, 0, 16, 674, 675, 676), (12, 73, 0, 17, 678, 679, 680), (12, 77, 0, 18, 682, 683, 684), (12, 81, 0, 19, 686, 687, 688), (12, 12, 2, 79, 692, 693, 0), (10, 1, 5, 0, 695, 0, 0), (12, 17, 0, 80, 804, 805, 806), (12, 22, 0, 81, 808, 809, 810), (10, 77, 1, 82, 812, 813, 0), (12, 27, 0, 83, 815, 816, 817), (10, 156, 0, 84, 819, 821, 24), (10, 93, 1, 85, 823, 824, 0), (10, 102, 0, 86, 827, 829, 25), (10, 139, 10, 0, 831, 0, 0), (10, 145, 11, 0, 832, 0, 0), (10, 116, 1, 87, 839, 840, 0), (10, 129, 8, 0, 845, 0, 0), (10, 165, 0, 88, 849, 851, 26), (10, 152, 0, 89, 853, 855, 27), (10, 177, 0, 90, 857, 859, 28), (10, 181, 0, 91, 861, 863, 29), (10, 192, 0, 92, 865, 867, 30), (10, 207, 0, 93, 869, 871, 31), (10, 210, 0, 94, 873, 875, 32), (10, 217, 0, 95, 877, 879, 33), (10, 184, 0, 96, 883, 885, 34), (10, 187, 0, 97, 887, 889, 35), (10, 168, 1, 121, 901, 447, 0), (12, 32, 0, 98, 902, 903, 904), (10, 272, 0, 99, 909, 911, 36), (10, 263, 0, 100, 913, 915, 37), (10, 259, 6, 0, 917, 0, 0), (12, 37, 0, 101, 918, 919, 920), (10, 280, 0, 102, 924, 925, 926), (10, 292, 0, 103, 928, 930, 38), (10, 249, 0, 104, 932, 934, 39), (10, 242, 0, 105, 936, 938, 40), (10, 246, 0, 106, 940, 942, 41), (10, 252, 1, 122, 944, 608, 0), (10, 256, 0, 107, 945, 947, 42), (10, 233, 0, 108, 949, 951, 43), (10, 229, 0, 109, 953, 955, 44), (12, 42, 0, 110, 957, 958, 959), (12, 46, 0, 111, 962, 963, 964), (12, 50, 0, 112, 966, 967, 968), (10, 288, 0, 113, 970, 972, 45), (12, 55, 0, 114, 974, 975, 976), (12, 60, 0, 102, 978, 925, 926), (12, 64, 0, 115, 979, 980, 981), (12, 68, 0, 116, 983, 984, 985), (12, 72, 0, 117, 987, 988, 989), (12, 76, 0, 118, 992, 993, 994), (12, 80, 0, 119, 996, 997, 998), (12, 84, 0, 120, 1001, 1002, 1003)]
def xCl (o i : Nat) : Option (Nat × Nat × Nat × Nat × Nat × Nat × Nat) := xCt.find? (fun q => q.1 == o && q.2.1 == i)
/-- new: own class, place in its pool, the class; places of its words -/
def xKt : List (Nat × Nat × Nat × Nat × Nat × Nat) := [(12, 7, 0, 65, 66, 47), (0, 9, 1, 73, 74, 48), (0, 16, 2, 90, 91, 49), (2, 11, 3, 96, 97, 50), (0, 25, 4, 144, 145, 51), (4, 9, 9, 150, 502, 64), (0, 32, 5, 169, 170, 52), (0, 35, 6, 194, 196, 53), (0, 44, 7, 249, 251, 54), (2, 58, 8, 444, 445, 60), (0, 95, 9, 501, 502, 64), (12, 10, 10, 690, 691, 55)]
def xKl (o i : Nat) : Option (Nat × Nat × Nat × Nat × Nat × Nat) := xKt.find? (fun q => q.1 == o && q.2.1 == i)
/-- anewarray: own class, place in its pool, the kind of array (16, 17: multianewarray of 6, 7); places of its words -/
def xNt : List (Nat × Nat × Nat × Nat × Nat) := [(4, 9, 3, 150, 151), (0, 35, 4, 194, 195), (0, 44, 5, 249, 250), (0, 95, 3, 501, 151), (10, 26, 6, 696, 697), (10, 31, 17, 698, 699), (10, 48, 16, 700, 697)]
def xNl (o i : Nat) : Option (Nat × Nat × Nat × Nat × Nat) := xNt.find? (fun q => q.1 == o && q.2.1 == i)
/-- ldc: own class, place in its pool, kind (0 an int, 1 a text), the int, the number of the text; the place of its word -/
def xDt : List (Nat × Nat × Nat × Int32 × Nat × Nat) := [(3, 62, 1, 0, 0, 326), (3, 68, 1, 0, 1, 378), (3, 70, 1, 0, 2, 379), (3, 72, 1, 0, 3, 380), (3, 74, 1, 0, 4, 381), (3, 76, 1, 0, 5, 382), (3, 78, 1, 0, 6, 383), (0, 78, 0, 1000000000, 0, 486), (10, 100, 1, 0, 1, 826), (10, 106, 1, 0, 2, 833), (10, 108, 1, 0, 3, 834), (10, 110, 1, 0, 4, 835), (10, 112, 1, 0, 5, 836), (10, 113, 1, 0, 6, 837), (10, 114, 1, 0, 0, 838), (10, 222, 1, 0, 7, 881), (10, 224, 1, 0, 8, 882), (10, 220, 1, 0, 9, 892), (10, 213, 1, 0, 10, 893), (10, 215, 1, 0, 11, 894), (10, 199, 1, 0, 12, 895), (10, 201, 1, 0, 13, 896), (10, 203, 1, 0, 14, 897), (10, 205, 1, 0, 15, 898), (10, 190, 1, 0, 16, 899), (10, 195, 1, 0, 17, 900)]
def xDl (o i : Nat) : Option (Nat × Nat × Nat × Int32 × Nat × Nat) := xDt.find? (fun q => q.1 == o && q.2.1 == i)
def xLt : List (Nat × Nat × Int64 × Nat) := [(3, 58, 2147483647, 388), (3, 60, 10, 389), (0, 114, 1099511627776, 547), (0, 119, 1099511627777, 552), (10, 123, 1099511627776, 842), (10, 125, 10, 843), (10, 127, 48, 844), (10, 137, 2147483647, 848), (10, 197, 32, 891), (10, 266, 4, 906), (10, 268, 7, 907), (10, 270, 1000000000, 908), (10, 276, 31, 922), (10, 278, 1099511627777, 923), (10, 283, 15, 961), (10, 296, 2, 991), (10, 298, 3, 1000)]
def xLl (o i : Nat) : Option (Nat × Nat × Int64 × Nat) := xLt.find? (fun q => q.1 == o && q.2.1 == i)
/-- the texts -/
def xSt : List (List Nat) := [[99], [105, 102], [116, 104, 101, 110], [101, 108, 115, 101], [97, 110, 100], [115, 101, 114, 118, 101, 114], [115, 116, 97, 109, 112], [40], [41], [42], [43], [45], [61], [35], [60], [62], [58, 61], [44]]
def xSn : List String := ["c", "if", "then", "else", "and", "server", "stamp", "(", ")", "*", "+", "-", "=", "#", "<", ">", ":=", ","]
def xinL : List Nat := [47, 48, 49, 50, 51, 52, 53, 54, 60, 64, 55, 61, 46]
