/-! printed by wip/whole/names.py: the classes, the methods, the links, each by its place in the tables -/
def T_Book : u_T := fun k => match k with
  | 0 => ("SwungShips$Book", "ships", "[I", true)
  | 1 => ("SwungShips$Book", "cells", "[I", true)
  | _ => ("SwungShips$Book", "entries", "I", false)
def t_Book : Nat → FieldType := fun k => match k with
  | 0 => .array .int
  | 1 => .array .int
  | _ => .int
def T_Harb : u_T := fun k => match k with
  | 0 => ("SwungShips$Harbour", "width", "I", false)
  | 1 => ("SwungShips$Harbour", "height", "I", false)
  | 2 => ("SwungShips$Harbour", "tideNow", "I", false)
  | 3 => ("SwungShips$Harbour", "foreseen", "I", false)
  | 4 => ("SwungShips$Harbour", "anchored", "I", false)
  | 5 => ("SwungShips$Harbour", "waiting", "I", false)
  | 6 => ("SwungShips$Harbour", "depths", "[I", true)
  | 7 => ("SwungShips$Harbour", "draughts", "[I", true)
  | 8 => ("SwungShips$Harbour", "chains", "[I", true)
  | 9 => ("SwungShips$Harbour", "sides", "[I", true)
  | 10 => ("SwungShips$Harbour", "xs", "[I", true)
  | _ => ("SwungShips$Harbour", "ys", "[I", true)
def t_Harb : Nat → FieldType := fun k => match k with
  | 0 => .int
  | 1 => .int
  | 2 => .int
  | 3 => .int
  | 4 => .int
  | 5 => .int
  | 6 => .array .int
  | 7 => .array .int
  | 8 => .array .int
  | 9 => .array .int
  | 10 => .array .int
  | _ => .array .int
def T_Hist : u_T := fun k => match k with
  | 0 => ("SwungShips$History", "before", "[LSwungShips$Harbour;", true)
  | 1 => ("SwungShips$History", "next", "I", false)
  | _ => ("SwungShips$History", "kept", "I", false)
def t_Hist : Nat → FieldType := fun k => match k with
  | 0 => .array (.object "SwungShips$Harbour")
  | 1 => .int
  | _ => .int
def T_Imag : u_T := fun k => match k with
  | 0 => ("SwungShips$Image", "shown", "LSwungShips$Harbour;", true)
  | 1 => ("SwungShips$Image", "seedThen", "I", false)
  | _ => ("SwungShips$Image", "taken", "Z", false)
def t_Imag : Nat → FieldType := fun k => match k with
  | 0 => .object "SwungShips$Harbour"
  | 1 => .int
  | _ => .boolean
def T_Sear : u_T := fun k => match k with
  | 0 => ("SwungShips$Search", "row", "[I", true)
  | 1 => ("SwungShips$Search", "chosen", "[I", true)
  | 2 => ("SwungShips$Search", "length", "I", false)
  | 3 => ("SwungShips$Search", "moved", "I", false)
  | 4 => ("SwungShips$Search", "good", "[J", true)
  | 5 => ("SwungShips$Search", "bad", "[J", true)
  | _ => ("SwungShips$Search", "free", "[J", true)
def t_Sear : Nat → FieldType := fun k => match k with
  | 0 => .array .int
  | 1 => .array .int
  | 2 => .int
  | 3 => .int
  | 4 => .array .long
  | 5 => .array .long
  | _ => .array .long
def T_Sw : u_T := fun k => match k with
  | 0 => ("SwungShips", "now", "LSwungShips$Harbour;", true)
  | 1 => ("SwungShips", "history", "LSwungShips$History;", true)
  | 2 => ("SwungShips", "search", "LSwungShips$Search;", true)
  | 3 => ("SwungShips", "book", "LSwungShips$Book;", true)
  | 4 => ("SwungShips", "images", "[LSwungShips$Image;", true)
  | _ => ("SwungShips", "seedNow", "I", false)
def t_Sw : Nat → FieldType := fun k => match k with
  | 0 => .object "SwungShips$Harbour"
  | 1 => .object "SwungShips$History"
  | 2 => .object "SwungShips$Search"
  | 3 => .object "SwungShips$Book"
  | 4 => .array (.object "SwungShips$Image")
  | _ => .int
def T_Mod : u_T := fun k => match k with
  | 0 => ("SwungShipsModel", "w", "[I", true)
  | 1 => ("SwungShipsModel", "known", "I", false)
  | 2 => ("SwungShipsModel", "kept", "I", false)
  | 3 => ("SwungShipsModel", "seed", "I", false)
  | 4 => ("SwungShipsModel", "keptSeed", "[I", true)
  | 5 => ("SwungShipsModel", "bookOf", "[I", true)
  | 6 => ("SwungShipsModel", "bookIs", "[I", true)
  | 7 => ("SwungShipsModel", "booked", "I", false)
  | 8 => ("SwungShipsModel", "trial", "[I", true)
  | 9 => ("SwungShipsModel", "ships", "[I", true)
  | 10 => ("SwungShipsModel", "free", "[Z", true)
  | _ => ("SwungShipsModel", "movedSet", "I", false)
def t_Mod : Nat → FieldType := fun k => match k with
  | 0 => .array .int
  | 1 => .int
  | 2 => .int
  | 3 => .int
  | 4 => .array .int
  | 5 => .array .int
  | 6 => .array .int
  | 7 => .int
  | 8 => .array .int
  | 9 => .array .int
  | 10 => .array .boolean
  | _ => .int
def cls0 : List vw_C := [("SwungShips$Book", T_Book, 3), ("SwungShips$Harbour", T_Harb, 12), ("SwungShips$History", T_Hist, 3), ("SwungShips$Image", T_Imag, 3), ("SwungShips$Search", T_Sear, 7), ("SwungShips", T_Sw, 6), ("SwungShipsModel", T_Mod, 12)]
/-- a class of ours, known: its place, its fields' words in the tables, their types, their names apart -/
def CK (ci : Nat) (C : String) (T : u_T) (N : Nat) (ty0 : Nat → FieldType) : Prop := cls0[ci]? = some (C, T, N) ∧ (∀ w ∈ u_ws C T N, w ∈ gtbl) ∧ (∀ k, k < N → parseFieldDescriptor (T k).2.2.1 = some (ty0 k)) ∧ (∀ a, a < N → ∀ b, b < N → a ≠ b → (T a).2.1 ≠ (T b).2.1) ∧ ci < 10
/-- a link to a field of ours -/
def FL (own : String) (idx ci k : Nat) : Prop := ∃ (C : String) (T : u_T) (N : Nat) (ty0 : Nat → FieldType), CK ci C T N ty0 ∧ k < N ∧ Cond.fieldLink own idx (T k).1 (T k).2.1 (T k).2.2.1 ∈ gtbl
/-- such a field may be written anywhere, with ints / with booleans; or in the constructor alone, with references -/
def FW (ci k : Nat) (ty : FieldType) (fin : Bool) : Prop := ∀ C T N ty0, CK ci C T N ty0 → (T k).2.2.2 = fin ∧ parseFieldDescriptor (T k).2.2.1 = some ty ∧ (T k).1 = C
/-- a method of ours, known -/
def MOK (y : MethodName) (x : CX) (n : Nat) : Prop := Cond.code y (cxC x) (cxN x) (cxR x) ∈ gtbl ∧ plainFor y = true ∧ y.cls = cxO x ∧ (y.cls ≠ "java/lang/invoke/MethodHandle" ∧ y.cls ≠ "java/lang/invoke/VarHandle" ∧ (parseMethodDescriptor y.desc).map (fun d => d.parameters.length) = some n) ∧ Cond.initialized y.cls ∈ gtbl ∧ (cxI x = true → y.name = "<init>") ∧ cxN x ≤ 40
/-- links to methods: static, virtual, constructors, static ones of a nest mate -/
def LkS (own : String) (idx : Nat) (y : MethodName) : Prop := Cond.methodLink own idx y ∈ gtbl ∧ Cond.static y ∈ gtbl
def LkV (own : String) (idx : Nat) (y : MethodName) : Prop := Cond.methodLink own idx y ∈ gtbl ∧ Cond.instanceMethod y ∈ gtbl ∧ Cond.selects y.cls y y ∈ gtbl
def LkI (own : String) (idx : Nat) (y : MethodName) : Prop := Cond.methodLink own idx y ∈ gtbl ∧ Cond.instanceMethod y ∈ gtbl ∧ y.name = "<init>"
theorem u_ws_in {C : String} {T : u_T} {N : Nat} (h : ∀ k, k < N → u_lay C T k ∈ gtbl) : ∀ w ∈ u_ws C T N, w ∈ gtbl := by
  intro w hw
  obtain ⟨k, hk, rfl⟩ := List.mem_map.mp hw
  exact h k (List.mem_range.mp hk)
theorem la_Book_0 : u_lay "SwungShips$Book" T_Book 0 ∈ gtbl := g_mem 213 (by decide +kernel) (by decide +kernel)
theorem la_Book_1 : u_lay "SwungShips$Book" T_Book 1 ∈ gtbl := g_mem 215 (by decide +kernel) (by decide +kernel)
theorem la_Book_2 : u_lay "SwungShips$Book" T_Book 2 ∈ gtbl := g_mem 217 (by decide +kernel) (by decide +kernel)
theorem ck_Book : CK 0 "SwungShips$Book" T_Book 3 t_Book := ⟨rfl, u_ws_in (fun k hk => match k, hk with
  | 0, _ => la_Book_0
  | 1, _ => la_Book_1
  | 2, _ => la_Book_2
  | k + 3, h => absurd h (by omega)), by decide +kernel, by decide +kernel, by decide⟩
theorem ckE_Book {C : String} {T : u_T} {N : Nat} {ty0 : Nat → FieldType} (h : CK 0 C T N ty0) : C = "SwungShips$Book" ∧ T = T_Book ∧ N = 3 := by
  have h1 := h.1
  cases h1
  exact ⟨rfl, rfl, rfl⟩
theorem fw_Book_0 : FW 0 0 (.array .int) true := fun C T N ty0 h => by
  obtain ⟨rfl, rfl, rfl⟩ := ckE_Book h
  exact ⟨rfl, by decide +kernel, rfl⟩
theorem fw_Book_1 : FW 0 1 (.array .int) true := fun C T N ty0 h => by
  obtain ⟨rfl, rfl, rfl⟩ := ckE_Book h
  exact ⟨rfl, by decide +kernel, rfl⟩
theorem fw_Book_2 : FW 0 2 (.int) false := fun C T N ty0 h => by
  obtain ⟨rfl, rfl, rfl⟩ := ckE_Book h
  exact ⟨rfl, by decide +kernel, rfl⟩
theorem la_Harb_0 : u_lay "SwungShips$Harbour" T_Harb 0 ∈ gtbl := g_mem 124 (by decide +kernel) (by decide +kernel)
theorem la_Harb_1 : u_lay "SwungShips$Harbour" T_Harb 1 ∈ gtbl := g_mem 126 (by decide +kernel) (by decide +kernel)
theorem la_Harb_2 : u_lay "SwungShips$Harbour" T_Harb 2 ∈ gtbl := g_mem 128 (by decide +kernel) (by decide +kernel)
theorem la_Harb_3 : u_lay "SwungShips$Harbour" T_Harb 3 ∈ gtbl := g_mem 130 (by decide +kernel) (by decide +kernel)
theorem la_Harb_4 : u_lay "SwungShips$Harbour" T_Harb 4 ∈ gtbl := g_mem 132 (by decide +kernel) (by decide +kernel)
theorem la_Harb_5 : u_lay "SwungShips$Harbour" T_Harb 5 ∈ gtbl := g_mem 134 (by decide +kernel) (by decide +kernel)
theorem la_Harb_6 : u_lay "SwungShips$Harbour" T_Harb 6 ∈ gtbl := g_mem 136 (by decide +kernel) (by decide +kernel)
theorem la_Harb_7 : u_lay "SwungShips$Harbour" T_Harb 7 ∈ gtbl := g_mem 138 (by decide +kernel) (by decide +kernel)
theorem la_Harb_8 : u_lay "SwungShips$Harbour" T_Harb 8 ∈ gtbl := g_mem 140 (by decide +kernel) (by decide +kernel)
theorem la_Harb_9 : u_lay "SwungShips$Harbour" T_Harb 9 ∈ gtbl := g_mem 142 (by decide +kernel) (by decide +kernel)
theorem la_Harb_10 : u_lay "SwungShips$Harbour" T_Harb 10 ∈ gtbl := g_mem 144 (by decide +kernel) (by decide +kernel)
theorem la_Harb_11 : u_lay "SwungShips$Harbour" T_Harb 11 ∈ gtbl := g_mem 146 (by decide +kernel) (by decide +kernel)
theorem ck_Harb : CK 1 "SwungShips$Harbour" T_Harb 12 t_Harb := ⟨rfl, u_ws_in (fun k hk => match k, hk with
  | 0, _ => la_Harb_0
  | 1, _ => la_Harb_1
  | 2, _ => la_Harb_2
  | 3, _ => la_Harb_3
  | 4, _ => la_Harb_4
  | 5, _ => la_Harb_5
  | 6, _ => la_Harb_6
  | 7, _ => la_Harb_7
  | 8, _ => la_Harb_8
  | 9, _ => la_Harb_9
  | 10, _ => la_Harb_10
  | 11, _ => la_Harb_11
  | k + 12, h => absurd h (by omega)), by decide +kernel, by decide +kernel, by decide⟩
theorem ckE_Harb {C : String} {T : u_T} {N : Nat} {ty0 : Nat → FieldType} (h : CK 1 C T N ty0) : C = "SwungShips$Harbour" ∧ T = T_Harb ∧ N = 12 := by
  have h1 := h.1
  cases h1
  exact ⟨rfl, rfl, rfl⟩
theorem fw_Harb_0 : FW 1 0 (.int) false := fun C T N ty0 h => by
  obtain ⟨rfl, rfl, rfl⟩ := ckE_Harb h
  exact ⟨rfl, by decide +kernel, rfl⟩
theorem fw_Harb_1 : FW 1 1 (.int) false := fun C T N ty0 h => by
  obtain ⟨rfl, rfl, rfl⟩ := ckE_Harb h
  exact ⟨rfl, by decide +kernel, rfl⟩
theorem fw_Harb_2 : FW 1 2 (.int) false := fun C T N ty0 h => by
  obtain ⟨rfl, rfl, rfl⟩ := ckE_Harb h
  exact ⟨rfl, by decide +kernel, rfl⟩
theorem fw_Harb_3 : FW 1 3 (.int) false := fun C T N ty0 h => by
  obtain ⟨rfl, rfl, rfl⟩ := ckE_Harb h
  exact ⟨rfl, by decide +kernel, rfl⟩
theorem fw_Harb_4 : FW 1 4 (.int) false := fun C T N ty0 h => by
  obtain ⟨rfl, rfl, rfl⟩ := ckE_Harb h
  exact ⟨rfl, by decide +kernel, rfl⟩
theorem fw_Harb_5 : FW 1 5 (.int) false := fun C T N ty0 h => by
  obtain ⟨rfl, rfl, rfl⟩ := ckE_Harb h
  exact ⟨rfl, by decide +kernel, rfl⟩
theorem fw_Harb_6 : FW 1 6 (.array .int) true := fun C T N ty0 h => by
  obtain ⟨rfl, rfl, rfl⟩ := ckE_Harb h
  exact ⟨rfl, by decide +kernel, rfl⟩
theorem fw_Harb_7 : FW 1 7 (.array .int) true := fun C T N ty0 h => by
  obtain ⟨rfl, rfl, rfl⟩ := ckE_Harb h
  exact ⟨rfl, by decide +kernel, rfl⟩
theorem fw_Harb_8 : FW 1 8 (.array .int) true := fun C T N ty0 h => by
  obtain ⟨rfl, rfl, rfl⟩ := ckE_Harb h
  exact ⟨rfl, by decide +kernel, rfl⟩
theorem fw_Harb_9 : FW 1 9 (.array .int) true := fun C T N ty0 h => by
  obtain ⟨rfl, rfl, rfl⟩ := ckE_Harb h
  exact ⟨rfl, by decide +kernel, rfl⟩
theorem fw_Harb_10 : FW 1 10 (.array .int) true := fun C T N ty0 h => by
  obtain ⟨rfl, rfl, rfl⟩ := ckE_Harb h
  exact ⟨rfl, by decide +kernel, rfl⟩
theorem fw_Harb_11 : FW 1 11 (.array .int) true := fun C T N ty0 h => by
  obtain ⟨rfl, rfl, rfl⟩ := ckE_Harb h
  exact ⟨rfl, by decide +kernel, rfl⟩
theorem la_Hist_0 : u_lay "SwungShips$History" T_Hist 0 ∈ gtbl := g_mem 163 (by decide +kernel) (by decide +kernel)
theorem la_Hist_1 : u_lay "SwungShips$History" T_Hist 1 ∈ gtbl := g_mem 165 (by decide +kernel) (by decide +kernel)
theorem la_Hist_2 : u_lay "SwungShips$History" T_Hist 2 ∈ gtbl := g_mem 167 (by decide +kernel) (by decide +kernel)
theorem ck_Hist : CK 2 "SwungShips$History" T_Hist 3 t_Hist := ⟨rfl, u_ws_in (fun k hk => match k, hk with
  | 0, _ => la_Hist_0
  | 1, _ => la_Hist_1
  | 2, _ => la_Hist_2
  | k + 3, h => absurd h (by omega)), by decide +kernel, by decide +kernel, by decide⟩
theorem ckE_Hist {C : String} {T : u_T} {N : Nat} {ty0 : Nat → FieldType} (h : CK 2 C T N ty0) : C = "SwungShips$History" ∧ T = T_Hist ∧ N = 3 := by
  have h1 := h.1
  cases h1
  exact ⟨rfl, rfl, rfl⟩
theorem fw_Hist_0 : FW 2 0 (.array (.object "SwungShips$Harbour")) true := fun C T N ty0 h => by
  obtain ⟨rfl, rfl, rfl⟩ := ckE_Hist h
  exact ⟨rfl, by decide +kernel, rfl⟩
theorem fw_Hist_1 : FW 2 1 (.int) false := fun C T N ty0 h => by
  obtain ⟨rfl, rfl, rfl⟩ := ckE_Hist h
  exact ⟨rfl, by decide +kernel, rfl⟩
theorem fw_Hist_2 : FW 2 2 (.int) false := fun C T N ty0 h => by
  obtain ⟨rfl, rfl, rfl⟩ := ckE_Hist h
  exact ⟨rfl, by decide +kernel, rfl⟩
theorem la_Imag_0 : u_lay "SwungShips$Image" T_Imag 0 ∈ gtbl := g_mem 235 (by decide +kernel) (by decide +kernel)
theorem la_Imag_1 : u_lay "SwungShips$Image" T_Imag 1 ∈ gtbl := g_mem 237 (by decide +kernel) (by decide +kernel)
theorem la_Imag_2 : u_lay "SwungShips$Image" T_Imag 2 ∈ gtbl := g_mem 239 (by decide +kernel) (by decide +kernel)
theorem ck_Imag : CK 3 "SwungShips$Image" T_Imag 3 t_Imag := ⟨rfl, u_ws_in (fun k hk => match k, hk with
  | 0, _ => la_Imag_0
  | 1, _ => la_Imag_1
  | 2, _ => la_Imag_2
  | k + 3, h => absurd h (by omega)), by decide +kernel, by decide +kernel, by decide⟩
theorem ckE_Imag {C : String} {T : u_T} {N : Nat} {ty0 : Nat → FieldType} (h : CK 3 C T N ty0) : C = "SwungShips$Image" ∧ T = T_Imag ∧ N = 3 := by
  have h1 := h.1
  cases h1
  exact ⟨rfl, rfl, rfl⟩
theorem fw_Imag_0 : FW 3 0 (.object "SwungShips$Harbour") true := fun C T N ty0 h => by
  obtain ⟨rfl, rfl, rfl⟩ := ckE_Imag h
  exact ⟨rfl, by decide +kernel, rfl⟩
theorem fw_Imag_1 : FW 3 1 (.int) false := fun C T N ty0 h => by
  obtain ⟨rfl, rfl, rfl⟩ := ckE_Imag h
  exact ⟨rfl, by decide +kernel, rfl⟩
theorem fw_Imag_2 : FW 3 2 (.boolean) false := fun C T N ty0 h => by
  obtain ⟨rfl, rfl, rfl⟩ := ckE_Imag h
  exact ⟨rfl, by decide +kernel, rfl⟩
theorem la_Sear_0 : u_lay "SwungShips$Search" T_Sear 0 ∈ gtbl := g_mem 187 (by decide +kernel) (by decide +kernel)
theorem la_Sear_1 : u_lay "SwungShips$Search" T_Sear 1 ∈ gtbl := g_mem 189 (by decide +kernel) (by decide +kernel)
theorem la_Sear_2 : u_lay "SwungShips$Search" T_Sear 2 ∈ gtbl := g_mem 191 (by decide +kernel) (by decide +kernel)
theorem la_Sear_3 : u_lay "SwungShips$Search" T_Sear 3 ∈ gtbl := g_mem 193 (by decide +kernel) (by decide +kernel)
theorem la_Sear_4 : u_lay "SwungShips$Search" T_Sear 4 ∈ gtbl := g_mem 195 (by decide +kernel) (by decide +kernel)
theorem la_Sear_5 : u_lay "SwungShips$Search" T_Sear 5 ∈ gtbl := g_mem 197 (by decide +kernel) (by decide +kernel)
theorem la_Sear_6 : u_lay "SwungShips$Search" T_Sear 6 ∈ gtbl := g_mem 199 (by decide +kernel) (by decide +kernel)
theorem ck_Sear : CK 4 "SwungShips$Search" T_Sear 7 t_Sear := ⟨rfl, u_ws_in (fun k hk => match k, hk with
  | 0, _ => la_Sear_0
  | 1, _ => la_Sear_1
  | 2, _ => la_Sear_2
  | 3, _ => la_Sear_3
  | 4, _ => la_Sear_4
  | 5, _ => la_Sear_5
  | 6, _ => la_Sear_6
  | k + 7, h => absurd h (by omega)), by decide +kernel, by decide +kernel, by decide⟩
theorem ckE_Sear {C : String} {T : u_T} {N : Nat} {ty0 : Nat → FieldType} (h : CK 4 C T N ty0) : C = "SwungShips$Search" ∧ T = T_Sear ∧ N = 7 := by
  have h1 := h.1
  cases h1
  exact ⟨rfl, rfl, rfl⟩
theorem fw_Sear_0 : FW 4 0 (.array .int) true := fun C T N ty0 h => by
  obtain ⟨rfl, rfl, rfl⟩ := ckE_Sear h
  exact ⟨rfl, by decide +kernel, rfl⟩
theorem fw_Sear_1 : FW 4 1 (.array .int) true := fun C T N ty0 h => by
  obtain ⟨rfl, rfl, rfl⟩ := ckE_Sear h
  exact ⟨rfl, by decide +kernel, rfl⟩
theorem fw_Sear_2 : FW 4 2 (.int) false := fun C T N ty0 h => by
  obtain ⟨rfl, rfl, rfl⟩ := ckE_Sear h
  exact ⟨rfl, by decide +kernel, rfl⟩
theorem fw_Sear_3 : FW 4 3 (.int) false := fun C T N ty0 h => by
  obtain ⟨rfl, rfl, rfl⟩ := ckE_Sear h
  exact ⟨rfl, by decide +kernel, rfl⟩
theorem fw_Sear_4 : FW 4 4 (.array .long) true := fun C T N ty0 h => by
  obtain ⟨rfl, rfl, rfl⟩ := ckE_Sear h
  exact ⟨rfl, by decide +kernel, rfl⟩
theorem fw_Sear_5 : FW 4 5 (.array .long) true := fun C T N ty0 h => by
  obtain ⟨rfl, rfl, rfl⟩ := ckE_Sear h
  exact ⟨rfl, by decide +kernel, rfl⟩
theorem fw_Sear_6 : FW 4 6 (.array .long) true := fun C T N ty0 h => by
  obtain ⟨rfl, rfl, rfl⟩ := ckE_Sear h
  exact ⟨rfl, by decide +kernel, rfl⟩
theorem la_Sw_0 : u_lay "SwungShips" T_Sw 0 ∈ gtbl := g_mem 248 (by decide +kernel) (by decide +kernel)
theorem la_Sw_1 : u_lay "SwungShips" T_Sw 1 ∈ gtbl := g_mem 250 (by decide +kernel) (by decide +kernel)
theorem la_Sw_2 : u_lay "SwungShips" T_Sw 2 ∈ gtbl := g_mem 252 (by decide +kernel) (by decide +kernel)
theorem la_Sw_3 : u_lay "SwungShips" T_Sw 3 ∈ gtbl := g_mem 254 (by decide +kernel) (by decide +kernel)
theorem la_Sw_4 : u_lay "SwungShips" T_Sw 4 ∈ gtbl := g_mem 256 (by decide +kernel) (by decide +kernel)
theorem la_Sw_5 : u_lay "SwungShips" T_Sw 5 ∈ gtbl := g_mem 258 (by decide +kernel) (by decide +kernel)
theorem ck_Sw : CK 5 "SwungShips" T_Sw 6 t_Sw := ⟨rfl, u_ws_in (fun k hk => match k, hk with
  | 0, _ => la_Sw_0
  | 1, _ => la_Sw_1
  | 2, _ => la_Sw_2
  | 3, _ => la_Sw_3
  | 4, _ => la_Sw_4
  | 5, _ => la_Sw_5
  | k + 6, h => absurd h (by omega)), by decide +kernel, by decide +kernel, by decide⟩
theorem ckE_Sw {C : String} {T : u_T} {N : Nat} {ty0 : Nat → FieldType} (h : CK 5 C T N ty0) : C = "SwungShips" ∧ T = T_Sw ∧ N = 6 := by
  have h1 := h.1
  cases h1
  exact ⟨rfl, rfl, rfl⟩
theorem fw_Sw_0 : FW 5 0 (.object "SwungShips$Harbour") true := fun C T N ty0 h => by
  obtain ⟨rfl, rfl, rfl⟩ := ckE_Sw h
  exact ⟨rfl, by decide +kernel, rfl⟩
theorem fw_Sw_1 : FW 5 1 (.object "SwungShips$History") true := fun C T N ty0 h => by
  obtain ⟨rfl, rfl, rfl⟩ := ckE_Sw h
  exact ⟨rfl, by decide +kernel, rfl⟩
theorem fw_Sw_2 : FW 5 2 (.object "SwungShips$Search") true := fun C T N ty0 h => by
  obtain ⟨rfl, rfl, rfl⟩ := ckE_Sw h
  exact ⟨rfl, by decide +kernel, rfl⟩
theorem fw_Sw_3 : FW 5 3 (.object "SwungShips$Book") true := fun C T N ty0 h => by
  obtain ⟨rfl, rfl, rfl⟩ := ckE_Sw h
  exact ⟨rfl, by decide +kernel, rfl⟩
theorem fw_Sw_4 : FW 5 4 (.array (.object "SwungShips$Image")) true := fun C T N ty0 h => by
  obtain ⟨rfl, rfl, rfl⟩ := ckE_Sw h
  exact ⟨rfl, by decide +kernel, rfl⟩
theorem fw_Sw_5 : FW 5 5 (.int) false := fun C T N ty0 h => by
  obtain ⟨rfl, rfl, rfl⟩ := ckE_Sw h
  exact ⟨rfl, by decide +kernel, rfl⟩
theorem la_Mod_0 : u_lay "SwungShipsModel" T_Mod 0 ∈ gtbl := g_mem 675 (by decide +kernel) (by decide +kernel)
theorem la_Mod_1 : u_lay "SwungShipsModel" T_Mod 1 ∈ gtbl := g_mem 677 (by decide +kernel) (by decide +kernel)
theorem la_Mod_2 : u_lay "SwungShipsModel" T_Mod 2 ∈ gtbl := g_mem 679 (by decide +kernel) (by decide +kernel)
theorem la_Mod_3 : u_lay "SwungShipsModel" T_Mod 3 ∈ gtbl := g_mem 681 (by decide +kernel) (by decide +kernel)
theorem la_Mod_4 : u_lay "SwungShipsModel" T_Mod 4 ∈ gtbl := g_mem 683 (by decide +kernel) (by decide +kernel)
theorem la_Mod_5 : u_lay "SwungShipsModel" T_Mod 5 ∈ gtbl := g_mem 685 (by decide +kernel) (by decide +kernel)
theorem la_Mod_6 : u_lay "SwungShipsModel" T_Mod 6 ∈ gtbl := g_mem 687 (by decide +kernel) (by decide +kernel)
theorem la_Mod_7 : u_lay "SwungShipsModel" T_Mod 7 ∈ gtbl := g_mem 689 (by decide +kernel) (by decide +kernel)
theorem la_Mod_8 : u_lay "SwungShipsModel" T_Mod 8 ∈ gtbl := g_mem 691 (by decide +kernel) (by decide +kernel)
theorem la_Mod_9 : u_lay "SwungShipsModel" T_Mod 9 ∈ gtbl := g_mem 693 (by decide +kernel) (by decide +kernel)
theorem la_Mod_10 : u_lay "SwungShipsModel" T_Mod 10 ∈ gtbl := g_mem 695 (by decide +kernel) (by decide +kernel)
theorem la_Mod_11 : u_lay "SwungShipsModel" T_Mod 11 ∈ gtbl := g_mem 697 (by decide +kernel) (by decide +kernel)
theorem ck_Mod : CK 6 "SwungShipsModel" T_Mod 12 t_Mod := ⟨rfl, u_ws_in (fun k hk => match k, hk with
  | 0, _ => la_Mod_0
  | 1, _ => la_Mod_1
  | 2, _ => la_Mod_2
  | 3, _ => la_Mod_3
  | 4, _ => la_Mod_4
  | 5, _ => la_Mod_5
  | 6, _ => la_Mod_6
  | 7, _ => la_Mod_7
  | 8, _ => la_Mod_8
  | 9, _ => la_Mod_9
  | 10, _ => la_Mod_10
  | 11, _ => la_Mod_11
  | k + 12, h => absurd h (by omega)), by decide +kernel, by decide +kernel, by decide⟩
theorem ckE_Mod {C : String} {T : u_T} {N : Nat} {ty0 : Nat → FieldType} (h : CK 6 C T N ty0) : C = "SwungShipsModel" ∧ T = T_Mod ∧ N = 12 := by
  have h1 := h.1
  cases h1
  exact ⟨rfl, rfl, rfl⟩
theorem fw_Mod_0 : FW 6 0 (.array .int) true := fun C T N ty0 h => by
  obtain ⟨rfl, rfl, rfl⟩ := ckE_Mod h
  exact ⟨rfl, by decide +kernel, rfl⟩
theorem fw_Mod_1 : FW 6 1 (.int) false := fun C T N ty0 h => by
  obtain ⟨rfl, rfl, rfl⟩ := ckE_Mod h
  exact ⟨rfl, by decide +kernel, rfl⟩
theorem fw_Mod_2 : FW 6 2 (.int) false := fun C T N ty0 h => by
  obtain ⟨rfl, rfl, rfl⟩ := ckE_Mod h
  exact ⟨rfl, by decide +kernel, rfl⟩
theorem fw_Mod_3 : FW 6 3 (.int) false := fun C T N ty0 h => by
  obtain ⟨rfl, rfl, rfl⟩ := ckE_Mod h
  exact ⟨rfl, by decide +kernel, rfl⟩
theorem fw_Mod_4 : FW 6 4 (.array .int) true := fun C T N ty0 h => by
  obtain ⟨rfl, rfl, rfl⟩ := ckE_Mod h
  exact ⟨rfl, by decide +kernel, rfl⟩
theorem fw_Mod_5 : FW 6 5 (.array .int) true := fun C T N ty0 h => by
  obtain ⟨rfl, rfl, rfl⟩ := ckE_Mod h
  exact ⟨rfl, by decide +kernel, rfl⟩
theorem fw_Mod_6 : FW 6 6 (.array .int) true := fun C T N ty0 h => by
  obtain ⟨rfl, rfl, rfl⟩ := ckE_Mod h
  exact ⟨rfl, by decide +kernel, rfl⟩
theorem fw_Mod_7 : FW 6 7 (.int) false := fun C T N ty0 h => by
  obtain ⟨rfl, rfl, rfl⟩ := ckE_Mod h
  exact ⟨rfl, by decide +kernel, rfl⟩
theorem fw_Mod_8 : FW 6 8 (.array .int) true := fun C T N ty0 h => by
  obtain ⟨rfl, rfl, rfl⟩ := ckE_Mod h
  exact ⟨rfl, by decide +kernel, rfl⟩
theorem fw_Mod_9 : FW 6 9 (.array .int) true := fun C T N ty0 h => by
  obtain ⟨rfl, rfl, rfl⟩ := ckE_Mod h
  exact ⟨rfl, by decide +kernel, rfl⟩
theorem fw_Mod_10 : FW 6 10 (.array .boolean) true := fun C T N ty0 h => by
  obtain ⟨rfl, rfl, rfl⟩ := ckE_Mod h
  exact ⟨rfl, by decide +kernel, rfl⟩
theorem fw_Mod_11 : FW 6 11 (.int) false := fun C T N ty0 h => by
  obtain ⟨rfl, rfl, rfl⟩ := ckE_Mod h
  exact ⟨rfl, by decide +kernel, rfl⟩
def y_Sw_init : MethodName := ⟨"SwungShips", "<init>", "()V"⟩
def x_Sw_init : CX := ("SwungShips", prog_1_method_1_code, 2, none, true)
theorem m_Sw_init : MOK y_Sw_init x_Sw_init 0 := ⟨g_mem 68 (by decide +kernel) (by decide +kernel), by decide +kernel, rfl, by decide +kernel, g_mem 52 (by decide +kernel) (by decide +kernel), by decide, by decide⟩
def y_Harb_init : MethodName := ⟨"SwungShips$Harbour", "<init>", "()V"⟩
def x_Harb_init : CX := ("SwungShips$Harbour", prog_3_method_1_code, 1, none, true)
theorem m_Harb_init : MOK y_Harb_init x_Harb_init 0 := ⟨g_mem 76 (by decide +kernel) (by decide +kernel), by decide +kernel, rfl, by decide +kernel, g_mem 53 (by decide +kernel) (by decide +kernel), by decide, by decide⟩
def y_Harb_layOut : MethodName := ⟨"SwungShips$Harbour", "layOut", "(II)V"⟩
def x_Harb_layOut : CX := ("SwungShips$Harbour", prog_3_method_2_code, 4, none, false)
theorem m_Harb_layOut : MOK y_Harb_layOut x_Harb_layOut 2 := ⟨g_mem 81 (by decide +kernel) (by decide +kernel), by decide +kernel, rfl, by decide +kernel, g_mem 53 (by decide +kernel) (by decide +kernel), by decide, by decide⟩
def y_Hist_init : MethodName := ⟨"SwungShips$History", "<init>", "()V"⟩
def x_Hist_init : CX := ("SwungShips$History", prog_4_method_1_code, 2, none, true)
theorem m_Hist_init : MOK y_Hist_init x_Hist_init 0 := ⟨g_mem 154 (by decide +kernel) (by decide +kernel), by decide +kernel, rfl, by decide +kernel, g_mem 54 (by decide +kernel) (by decide +kernel), by decide, by decide⟩
def y_Sear_init : MethodName := ⟨"SwungShips$Search", "<init>", "()V"⟩
def x_Sear_init : CX := ("SwungShips$Search", prog_6_method_1_code, 1, none, true)
theorem m_Sear_init : MOK y_Sear_init x_Sear_init 0 := ⟨g_mem 174 (by decide +kernel) (by decide +kernel), by decide +kernel, rfl, by decide +kernel, g_mem 55 (by decide +kernel) (by decide +kernel), by decide, by decide⟩
def y_Book_init : MethodName := ⟨"SwungShips$Book", "<init>", "()V"⟩
def x_Book_init : CX := ("SwungShips$Book", prog_2_method_1_code, 1, none, true)
theorem m_Book_init : MOK y_Book_init x_Book_init 0 := ⟨g_mem 207 (by decide +kernel) (by decide +kernel), by decide +kernel, rfl, by decide +kernel, g_mem 56 (by decide +kernel) (by decide +kernel), by decide, by decide⟩
def y_Imag_init : MethodName := ⟨"SwungShips$Image", "<init>", "()V"⟩
def x_Imag_init : CX := ("SwungShips$Image", prog_5_method_1_code, 1, none, true)
theorem m_Imag_init : MOK y_Imag_init x_Imag_init 0 := ⟨g_mem 225 (by decide +kernel) (by decide +kernel), by decide +kernel, rfl, by decide +kernel, g_mem 57 (by decide +kernel) (by decide +kernel), by decide, by decide⟩
def y_Sw_told : MethodName := ⟨"SwungShips", "told", "(I)I"⟩
def x_Sw_told : CX := ("SwungShips", prog_1_method_2_code, 2, some .int, false)
theorem m_Sw_told : MOK y_Sw_told x_Sw_told 1 := ⟨g_mem 264 (by decide +kernel) (by decide +kernel), by decide +kernel, rfl, by decide +kernel, g_mem 52 (by decide +kernel) (by decide +kernel), by decide, by decide⟩
def y_Swing_inDanger : MethodName := ⟨"SwungShips$Swing", "inDanger", "(LSwungShips$Harbour;I)I"⟩
def x_Swing_inDanger : CX := ("SwungShips$Swing", prog_7_method_17_code, 4, some .int, false)
theorem m_Swing_inDanger : MOK y_Swing_inDanger x_Swing_inDanger 2 := ⟨g_mem 267 (by decide +kernel) (by decide +kernel), by decide +kernel, rfl, by decide +kernel, g_mem 59 (by decide +kernel) (by decide +kernel), by decide, by decide⟩
def y_Swing_liesWell : MethodName := ⟨"SwungShips$Swing", "liesWell", "(LSwungShips$Harbour;II)Z"⟩
def x_Swing_liesWell : CX := ("SwungShips$Swing", prog_7_method_12_code, 3, some .boolean, false)
theorem m_Swing_liesWell : MOK y_Swing_liesWell x_Swing_liesWell 3 := ⟨g_mem 270 (by decide +kernel) (by decide +kernel), by decide +kernel, rfl, by decide +kernel, g_mem 59 (by decide +kernel) (by decide +kernel), by decide, by decide⟩
def y_Swing_leastWater : MethodName := ⟨"SwungShips$Swing", "leastWater", "(LSwungShips$Harbour;II)I"⟩
def x_Swing_leastWater : CX := ("SwungShips$Swing", prog_7_method_10_code, 5, some .int, false)
theorem m_Swing_leastWater : MOK y_Swing_leastWater x_Swing_leastWater 3 := ⟨g_mem 273 (by decide +kernel) (by decide +kernel), by decide +kernel, rfl, by decide +kernel, g_mem 59 (by decide +kernel) (by decide +kernel), by decide, by decide⟩
def y_Swing_blows : MethodName := ⟨"SwungShips$Swing", "blows", "(II)Z"⟩
def x_Swing_blows : CX := ("SwungShips$Swing", prog_7_method_2_code, 2, some .boolean, false)
theorem m_Swing_blows : MOK y_Swing_blows x_Swing_blows 2 := ⟨g_mem 277 (by decide +kernel) (by decide +kernel), by decide +kernel, rfl, by decide +kernel, g_mem 59 (by decide +kernel) (by decide +kernel), by decide, by decide⟩
def y_Swing_leastWaterBy : MethodName := ⟨"SwungShips$Swing", "leastWaterBy", "(LSwungShips$Harbour;II)I"⟩
def x_Swing_leastWaterBy : CX := ("SwungShips$Swing", prog_7_method_11_code, 8, some .int, false)
theorem m_Swing_leastWaterBy : MOK y_Swing_leastWaterBy x_Swing_leastWaterBy 3 := ⟨g_mem 280 (by decide +kernel) (by decide +kernel), by decide +kernel, rfl, by decide +kernel, g_mem 59 (by decide +kernel) (by decide +kernel), by decide, by decide⟩
def y_Swing_firstX : MethodName := ⟨"SwungShips$Swing", "firstX", "(LSwungShips$Harbour;II)I"⟩
def x_Swing_firstX : CX := ("SwungShips$Swing", prog_7_method_3_code, 3, some .int, false)
theorem m_Swing_firstX : MOK y_Swing_firstX x_Swing_firstX 3 := ⟨g_mem 283 (by decide +kernel) (by decide +kernel), by decide +kernel, rfl, by decide +kernel, g_mem 59 (by decide +kernel) (by decide +kernel), by decide, by decide⟩
def y_Swing_firstY : MethodName := ⟨"SwungShips$Swing", "firstY", "(LSwungShips$Harbour;II)I"⟩
def x_Swing_firstY : CX := ("SwungShips$Swing", prog_7_method_4_code, 3, some .int, false)
theorem m_Swing_firstY : MOK y_Swing_firstY x_Swing_firstY 3 := ⟨g_mem 288 (by decide +kernel) (by decide +kernel), by decide +kernel, rfl, by decide +kernel, g_mem 59 (by decide +kernel) (by decide +kernel), by decide, by decide⟩
def y_Harb_water : MethodName := ⟨"SwungShips$Harbour", "water", "(II)I"⟩
def x_Harb_water : CX := ("SwungShips$Harbour", prog_3_method_10_code, 3, some .int, false)
theorem m_Harb_water : MOK y_Harb_water x_Harb_water 2 := ⟨g_mem 294 (by decide +kernel) (by decide +kernel), by decide +kernel, rfl, by decide +kernel, g_mem 53 (by decide +kernel) (by decide +kernel), by decide, by decide⟩
def y_Harb_hasCell : MethodName := ⟨"SwungShips$Harbour", "hasCell", "(II)Z"⟩
def x_Harb_hasCell : CX := ("SwungShips$Harbour", prog_3_method_4_code, 3, some .boolean, false)
theorem m_Harb_hasCell : MOK y_Harb_hasCell x_Harb_hasCell 2 := ⟨g_mem 298 (by decide +kernel) (by decide +kernel), by decide +kernel, rfl, by decide +kernel, g_mem 53 (by decide +kernel) (by decide +kernel), by decide, by decide⟩
def y_Harb_cellAt : MethodName := ⟨"SwungShips$Harbour", "cellAt", "(II)I"⟩
def x_Harb_cellAt : CX := ("SwungShips$Harbour", prog_3_method_8_code, 3, some .int, false)
theorem m_Harb_cellAt : MOK y_Harb_cellAt x_Harb_cellAt 2 := ⟨g_mem 302 (by decide +kernel) (by decide +kernel), by decide +kernel, rfl, by decide +kernel, g_mem 53 (by decide +kernel) (by decide +kernel), by decide, by decide⟩
def y_Math_max : MethodName := ⟨"java/lang/Math", "max", "(II)I"⟩
def x_Math_max : CX := ("java/lang/Math", prog_12_method_65_code, 2, some .int, false)
def y_Math_min : MethodName := ⟨"java/lang/Math", "min", "(II)I"⟩
def x_Math_min : CX := ("java/lang/Math", prog_12_method_69_code, 2, some .int, false)
def y_Swing_clashesOf : MethodName := ⟨"SwungShips$Swing", "clashesOf", "(LSwungShips$Harbour;II)I"⟩
def x_Swing_clashesOf : CX := ("SwungShips$Swing", prog_7_method_15_code, 5, some .int, false)
theorem m_Swing_clashesOf : MOK y_Swing_clashesOf x_Swing_clashesOf 3 := ⟨g_mem 311 (by decide +kernel) (by decide +kernel), by decide +kernel, rfl, by decide +kernel, g_mem 59 (by decide +kernel) (by decide +kernel), by decide, by decide⟩
def y_Swing_clash : MethodName := ⟨"SwungShips$Swing", "clash", "(LSwungShips$Harbour;III)Z"⟩
def x_Swing_clash : CX := ("SwungShips$Swing", prog_7_method_13_code, 5, some .boolean, false)
theorem m_Swing_clash : MOK y_Swing_clash x_Swing_clash 4 := ⟨g_mem 314 (by decide +kernel) (by decide +kernel), by decide +kernel, rfl, by decide +kernel, g_mem 59 (by decide +kernel) (by decide +kernel), by decide, by decide⟩
def y_Swing_clashBy : MethodName := ⟨"SwungShips$Swing", "clashBy", "(LSwungShips$Harbour;III)Z"⟩
def x_Swing_clashBy : CX := ("SwungShips$Swing", prog_7_method_14_code, 6, some .boolean, false)
theorem m_Swing_clashBy : MOK y_Swing_clashBy x_Swing_clashBy 4 := ⟨g_mem 317 (by decide +kernel) (by decide +kernel), by decide +kernel, rfl, by decide +kernel, g_mem 59 (by decide +kernel) (by decide +kernel), by decide, by decide⟩
def y_Swing_pairsThatClash : MethodName := ⟨"SwungShips$Swing", "pairsThatClash", "(LSwungShips$Harbour;)I"⟩
def x_Swing_pairsThatClash : CX := ("SwungShips$Swing", prog_7_method_16_code, 3, some .int, false)
theorem m_Swing_pairsThatClash : MOK y_Swing_pairsThatClash x_Swing_pairsThatClash 1 := ⟨g_mem 320 (by decide +kernel) (by decide +kernel), by decide +kernel, rfl, by decide +kernel, g_mem 59 (by decide +kernel) (by decide +kernel), by decide, by decide⟩
def y_Integer_bitCount : MethodName := ⟨"java/lang/Integer", "bitCount", "(I)I"⟩
def x_Integer_bitCount : CX := ("java/lang/Integer", prog_10_method_49_code, 1, some .int, false)
theorem m_Integer_bitCount : MOK y_Integer_bitCount x_Integer_bitCount 1 := ⟨g_mem 323 (by decide +kernel) (by decide +kernel), by decide +kernel, rfl, by decide +kernel, g_mem 61 (by decide +kernel) (by decide +kernel), by decide, by decide⟩
def y_Sear_settlesAll : MethodName := ⟨"SwungShips$Search", "settlesAll", "(LSwungShips$Harbour;)Z"⟩
def x_Sear_settlesAll : CX := ("SwungShips$Search", prog_6_method_4_code, 3, some .boolean, false)
theorem m_Sear_settlesAll : MOK y_Sear_settlesAll x_Sear_settlesAll 1 := ⟨g_mem 330 (by decide +kernel) (by decide +kernel), by decide +kernel, rfl, by decide +kernel, g_mem 55 (by decide +kernel) (by decide +kernel), by decide, by decide⟩
def y_Sear_look : MethodName := ⟨"SwungShips$Search", "look", "(LSwungShips$Harbour;I)V"⟩
def x_Sear_look : CX := ("SwungShips$Search", prog_6_method_12_code, 4, none, false)
theorem m_Sear_look : MOK y_Sear_look x_Sear_look 2 := ⟨g_mem 334 (by decide +kernel) (by decide +kernel), by decide +kernel, rfl, by decide +kernel, g_mem 55 (by decide +kernel) (by decide +kernel), by decide, by decide⟩
def y_Sear_goodSpots : MethodName := ⟨"SwungShips$Search", "goodSpots", "(LSwungShips$Harbour;I)J"⟩
def x_Sear_goodSpots : CX := ("SwungShips$Search", prog_6_method_13_code, 9, some .long, false)
theorem m_Sear_goodSpots : MOK y_Sear_goodSpots x_Sear_goodSpots 2 := ⟨g_mem 337 (by decide +kernel) (by decide +kernel), by decide +kernel, rfl, by decide +kernel, g_mem 55 (by decide +kernel) (by decide +kernel), by decide, by decide⟩
def y_Sear_deepSpots : MethodName := ⟨"SwungShips$Search", "deepSpots", "(LSwungShips$Harbour;I)J"⟩
def x_Sear_deepSpots : CX := ("SwungShips$Search", prog_6_method_14_code, 6, some .long, false)
theorem m_Sear_deepSpots : MOK y_Sear_deepSpots x_Sear_deepSpots 2 := ⟨g_mem 340 (by decide +kernel) (by decide +kernel), by decide +kernel, rfl, by decide +kernel, g_mem 55 (by decide +kernel) (by decide +kernel), by decide, by decide⟩
def y_Sw_spotAt : MethodName := ⟨"SwungShips", "spotAt", "(II)I"⟩
def x_Sw_spotAt : CX := ("SwungShips", prog_1_method_27_code, 2, some .int, false)
theorem m_Sw_spotAt : MOK y_Sw_spotAt x_Sw_spotAt 2 := ⟨g_mem 344 (by decide +kernel) (by decide +kernel), by decide +kernel, rfl, by decide +kernel, g_mem 52 (by decide +kernel) (by decide +kernel), by decide, by decide⟩
def y_Sear_squareIn : MethodName := ⟨"SwungShips$Search", "squareIn", "(JIII)J"⟩
def x_Sear_squareIn : CX := ("SwungShips$Search", prog_6_method_15_code, 9, some .long, false)
theorem m_Sear_squareIn : MOK y_Sear_squareIn x_Sear_squareIn 4 := ⟨g_mem 350 (by decide +kernel) (by decide +kernel), by decide +kernel, rfl, by decide +kernel, g_mem 55 (by decide +kernel) (by decide +kernel), by decide, by decide⟩
def y_Sear_seenFrom : MethodName := ⟨"SwungShips$Search", "seenFrom", "(JII)J"⟩
def x_Sear_seenFrom : CX := ("SwungShips$Search", prog_6_method_18_code, 9, some .long, false)
theorem m_Sear_seenFrom : MOK y_Sear_seenFrom x_Sear_seenFrom 3 := ⟨g_mem 354 (by decide +kernel) (by decide +kernel), by decide +kernel, rfl, by decide +kernel, g_mem 55 (by decide +kernel) (by decide +kernel), by decide, by decide⟩
def y_Harb_hasSlot : MethodName := ⟨"SwungShips$Harbour", "hasSlot", "(I)Z"⟩
def x_Harb_hasSlot : CX := ("SwungShips$Harbour", prog_3_method_7_code, 2, some .boolean, false)
theorem m_Harb_hasSlot : MOK y_Harb_hasSlot x_Harb_hasSlot 1 := ⟨g_mem 360 (by decide +kernel) (by decide +kernel), by decide +kernel, rfl, by decide +kernel, g_mem 53 (by decide +kernel) (by decide +kernel), by decide, by decide⟩
def y_Harb_hasAnchored : MethodName := ⟨"SwungShips$Harbour", "hasAnchored", "(I)Z"⟩
def x_Harb_hasAnchored : CX := ("SwungShips$Harbour", prog_3_method_5_code, 2, some .boolean, false)
theorem m_Harb_hasAnchored : MOK y_Harb_hasAnchored x_Harb_hasAnchored 1 := ⟨g_mem 364 (by decide +kernel) (by decide +kernel), by decide +kernel, rfl, by decide +kernel, g_mem 53 (by decide +kernel) (by decide +kernel), by decide, by decide⟩
def y_Harb_hasWaiting : MethodName := ⟨"SwungShips$Harbour", "hasWaiting", "(I)Z"⟩
def x_Harb_hasWaiting : CX := ("SwungShips$Harbour", prog_3_method_6_code, 2, some .boolean, false)
theorem m_Harb_hasWaiting : MOK y_Harb_hasWaiting x_Harb_hasWaiting 1 := ⟨g_mem 368 (by decide +kernel) (by decide +kernel), by decide +kernel, rfl, by decide +kernel, g_mem 53 (by decide +kernel) (by decide +kernel), by decide, by decide⟩
def y_Sear_badSpots : MethodName := ⟨"SwungShips$Search", "badSpots", "(LSwungShips$Harbour;II)J"⟩
def x_Sear_badSpots : CX := ("SwungShips$Search", prog_6_method_16_code, 9, some .long, false)
theorem m_Sear_badSpots : MOK y_Sear_badSpots x_Sear_badSpots 3 := ⟨g_mem 371 (by decide +kernel) (by decide +kernel), by decide +kernel, rfl, by decide +kernel, g_mem 55 (by decide +kernel) (by decide +kernel), by decide, by decide⟩
def y_Sear_square : MethodName := ⟨"SwungShips$Search", "square", "(III)J"⟩
def x_Sear_square : CX := ("SwungShips$Search", prog_6_method_17_code, 7, some .long, false)
theorem m_Sear_square : MOK y_Sear_square x_Sear_square 3 := ⟨g_mem 374 (by decide +kernel) (by decide +kernel), by decide +kernel, rfl, by decide +kernel, g_mem 55 (by decide +kernel) (by decide +kernel), by decide, by decide⟩
def y_Sear_settlesRow : MethodName := ⟨"SwungShips$Search", "settlesRow", "(LSwungShips$Harbour;)Z"⟩
def x_Sear_settlesRow : CX := ("SwungShips$Search", prog_6_method_7_code, 3, some .boolean, false)
theorem m_Sear_settlesRow : MOK y_Sear_settlesRow x_Sear_settlesRow 1 := ⟨g_mem 378 (by decide +kernel) (by decide +kernel), by decide +kernel, rfl, by decide +kernel, g_mem 55 (by decide +kernel) (by decide +kernel), by decide, by decide⟩
def y_Sear_leftFor : MethodName := ⟨"SwungShips$Search", "leftFor", "(LSwungShips$Harbour;II)J"⟩
def x_Sear_leftFor : CX := ("SwungShips$Search", prog_6_method_10_code, 7, some .long, false)
theorem m_Sear_leftFor : MOK y_Sear_leftFor x_Sear_leftFor 3 := ⟨g_mem 382 (by decide +kernel) (by decide +kernel), by decide +kernel, rfl, by decide +kernel, g_mem 55 (by decide +kernel) (by decide +kernel), by decide, by decide⟩
def y_Sear_around : MethodName := ⟨"SwungShips$Search", "around", "(III)J"⟩
def x_Sear_around : CX := ("SwungShips$Search", prog_6_method_11_code, 4, some .long, false)
theorem m_Sear_around : MOK y_Sear_around x_Sear_around 3 := ⟨g_mem 386 (by decide +kernel) (by decide +kernel), by decide +kernel, rfl, by decide +kernel, g_mem 55 (by decide +kernel) (by decide +kernel), by decide, by decide⟩
def y_Sw_columnOf : MethodName := ⟨"SwungShips", "columnOf", "(I)I"⟩
def x_Sw_columnOf : CX := ("SwungShips", prog_1_method_28_code, 1, some .int, false)
theorem m_Sw_columnOf : MOK y_Sw_columnOf x_Sw_columnOf 1 := ⟨g_mem 389 (by decide +kernel) (by decide +kernel), by decide +kernel, rfl, by decide +kernel, g_mem 52 (by decide +kernel) (by decide +kernel), by decide, by decide⟩
def y_Sw_lineOf : MethodName := ⟨"SwungShips", "lineOf", "(I)I"⟩
def x_Sw_lineOf : CX := ("SwungShips", prog_1_method_29_code, 1, some .int, false)
theorem m_Sw_lineOf : MOK y_Sw_lineOf x_Sw_lineOf 1 := ⟨g_mem 392 (by decide +kernel) (by decide +kernel), by decide +kernel, rfl, by decide +kernel, g_mem 52 (by decide +kernel) (by decide +kernel), by decide, by decide⟩
def y_Sear_settles : MethodName := ⟨"SwungShips$Search", "settles", "(I)Z"⟩
def x_Sear_settles : CX := ("SwungShips$Search", prog_6_method_8_code, 5, some .boolean, false)
theorem m_Sear_settles : MOK y_Sear_settles x_Sear_settles 1 := ⟨g_mem 396 (by decide +kernel) (by decide +kernel), by decide +kernel, rfl, by decide +kernel, g_mem 55 (by decide +kernel) (by decide +kernel), by decide, by decide⟩
def y_Sw_holds : MethodName := ⟨"SwungShips", "holds", "(JI)Z"⟩
def x_Sw_holds : CX := ("SwungShips", prog_1_method_30_code, 3, some .boolean, false)
theorem m_Sw_holds : MOK y_Sw_holds x_Sw_holds 2 := ⟨g_mem 399 (by decide +kernel) (by decide +kernel), by decide +kernel, rfl, by decide +kernel, g_mem 52 (by decide +kernel) (by decide +kernel), by decide, by decide⟩
def y_Sear_settlesAt : MethodName := ⟨"SwungShips$Search", "settlesAt", "(II)Z"⟩
def x_Sear_settlesAt : CX := ("SwungShips$Search", prog_6_method_9_code, 6, some .boolean, false)
theorem m_Sear_settlesAt : MOK y_Sear_settlesAt x_Sear_settlesAt 2 := ⟨g_mem 403 (by decide +kernel) (by decide +kernel), by decide +kernel, rfl, by decide +kernel, g_mem 55 (by decide +kernel) (by decide +kernel), by decide, by decide⟩
def y_Swing_threats : MethodName := ⟨"SwungShips$Swing", "threats", "(LSwungShips$Harbour;)I"⟩
def x_Swing_threats : CX := ("SwungShips$Swing", prog_7_method_18_code, 5, some .int, false)
theorem m_Swing_threats : MOK y_Swing_threats x_Swing_threats 1 := ⟨g_mem 406 (by decide +kernel) (by decide +kernel), by decide +kernel, rfl, by decide +kernel, g_mem 59 (by decide +kernel) (by decide +kernel), by decide, by decide⟩
def y_Swing_sweptByAll : MethodName := ⟨"SwungShips$Swing", "sweptByAll", "(LSwungShips$Harbour;)J"⟩
def x_Swing_sweptByAll : CX := ("SwungShips$Swing", prog_7_method_8_code, 4, some .long, false)
theorem m_Swing_sweptByAll : MOK y_Swing_sweptByAll x_Swing_sweptByAll 1 := ⟨g_mem 410 (by decide +kernel) (by decide +kernel), by decide +kernel, rfl, by decide +kernel, g_mem 59 (by decide +kernel) (by decide +kernel), by decide, by decide⟩
def y_Swing_sweptBy : MethodName := ⟨"SwungShips$Swing", "sweptBy", "(LSwungShips$Harbour;I)J"⟩
def x_Swing_sweptBy : CX := ("SwungShips$Swing", prog_7_method_6_code, 5, some .long, false)
theorem m_Swing_sweptBy : MOK y_Swing_sweptBy x_Swing_sweptBy 2 := ⟨g_mem 413 (by decide +kernel) (by decide +kernel), by decide +kernel, rfl, by decide +kernel, g_mem 59 (by decide +kernel) (by decide +kernel), by decide, by decide⟩
def y_Swing_lainOn : MethodName := ⟨"SwungShips$Swing", "lainOn", "(LSwungShips$Harbour;II)J"⟩
def x_Swing_lainOn : CX := ("SwungShips$Swing", prog_7_method_7_code, 9, some .long, false)
theorem m_Swing_lainOn : MOK y_Swing_lainOn x_Swing_lainOn 3 := ⟨g_mem 416 (by decide +kernel) (by decide +kernel), by decide +kernel, rfl, by decide +kernel, g_mem 59 (by decide +kernel) (by decide +kernel), by decide, by decide⟩
def y_Long_bitCount : MethodName := ⟨"java/lang/Long", "bitCount", "(J)I"⟩
def x_Long_bitCount : CX := ("java/lang/Long", prog_11_method_50_code, 2, some .int, false)
theorem m_Long_bitCount : MOK y_Long_bitCount x_Long_bitCount 1 := ⟨g_mem 421 (by decide +kernel) (by decide +kernel), by decide +kernel, rfl, by decide +kernel, g_mem 62 (by decide +kernel) (by decide +kernel), by decide, by decide⟩
def y_Book_firstWrong : MethodName := ⟨"SwungShips$Book", "firstWrong", "(LSwungShips$Harbour;)I"⟩
def x_Book_firstWrong : CX := ("SwungShips$Book", prog_2_method_3_code, 4, some .int, false)
theorem m_Book_firstWrong : MOK y_Book_firstWrong x_Book_firstWrong 1 := ⟨g_mem 428 (by decide +kernel) (by decide +kernel), by decide +kernel, rfl, by decide +kernel, g_mem 56 (by decide +kernel) (by decide +kernel), by decide, by decide⟩
def y_Sw_cell : MethodName := ⟨"SwungShips", "cell", "(III)I"⟩
def x_Sw_cell : CX := ("SwungShips", prog_1_method_3_code, 4, some .int, false)
theorem m_Sw_cell : MOK y_Sw_cell x_Sw_cell 3 := ⟨g_mem 435 (by decide +kernel) (by decide +kernel), by decide +kernel, rfl, by decide +kernel, g_mem 52 (by decide +kernel) (by decide +kernel), by decide, by decide⟩
def y_Harb_depthAt : MethodName := ⟨"SwungShips$Harbour", "depthAt", "(II)I"⟩
def x_Harb_depthAt : CX := ("SwungShips$Harbour", prog_3_method_9_code, 3, some .int, false)
theorem m_Harb_depthAt : MOK y_Harb_depthAt x_Harb_depthAt 2 := ⟨g_mem 441 (by decide +kernel) (by decide +kernel), by decide +kernel, rfl, by decide +kernel, g_mem 53 (by decide +kernel) (by decide +kernel), by decide, by decide⟩
def y_Swing_sweepersOf : MethodName := ⟨"SwungShips$Swing", "sweepersOf", "(LSwungShips$Harbour;I)I"⟩
def x_Swing_sweepersOf : CX := ("SwungShips$Swing", prog_7_method_9_code, 4, some .int, false)
theorem m_Swing_sweepersOf : MOK y_Swing_sweepersOf x_Swing_sweepersOf 2 := ⟨g_mem 446 (by decide +kernel) (by decide +kernel), by decide +kernel, rfl, by decide +kernel, g_mem 59 (by decide +kernel) (by decide +kernel), by decide, by decide⟩
def y_Sear_waitersFor : MethodName := ⟨"SwungShips$Search", "waitersFor", "(LSwungShips$Harbour;I)I"⟩
def x_Sear_waitersFor : CX := ("SwungShips$Search", prog_6_method_3_code, 5, some .int, false)
theorem m_Sear_waitersFor : MOK y_Sear_waitersFor x_Sear_waitersFor 2 := ⟨g_mem 451 (by decide +kernel) (by decide +kernel), by decide +kernel, rfl, by decide +kernel, g_mem 55 (by decide +kernel) (by decide +kernel), by decide, by decide⟩
def y_Sear_placesFor : MethodName := ⟨"SwungShips$Search", "placesFor", "(LSwungShips$Harbour;I)J"⟩
def x_Sear_placesFor : CX := ("SwungShips$Search", prog_6_method_2_code, 4, some .long, false)
theorem m_Sear_placesFor : MOK y_Sear_placesFor x_Sear_placesFor 2 := ⟨g_mem 455 (by decide +kernel) (by decide +kernel), by decide +kernel, rfl, by decide +kernel, g_mem 55 (by decide +kernel) (by decide +kernel), by decide, by decide⟩
def y_Sw_ship : MethodName := ⟨"SwungShips", "ship", "(II)I"⟩
def x_Sw_ship : CX := ("SwungShips", prog_1_method_4_code, 3, some .int, false)
theorem m_Sw_ship : MOK y_Sw_ship x_Sw_ship 2 := ⟨g_mem 459 (by decide +kernel) (by decide +kernel), by decide +kernel, rfl, by decide +kernel, g_mem 52 (by decide +kernel) (by decide +kernel), by decide, by decide⟩
def y_Sw_waits : MethodName := ⟨"SwungShips", "waits", "(II)I"⟩
def x_Sw_waits : CX := ("SwungShips", prog_1_method_5_code, 4, some .int, false)
theorem m_Sw_waits : MOK y_Sw_waits x_Sw_waits 2 := ⟨g_mem 469 (by decide +kernel) (by decide +kernel), by decide +kernel, rfl, by decide +kernel, g_mem 52 (by decide +kernel) (by decide +kernel), by decide, by decide⟩
def y_Sw_firstOf : MethodName := ⟨"SwungShips", "firstOf", "(J)I"⟩
def x_Sw_firstOf : CX := ("SwungShips", prog_1_method_31_code, 3, some .int, false)
theorem m_Sw_firstOf : MOK y_Sw_firstOf x_Sw_firstOf 1 := ⟨g_mem 474 (by decide +kernel) (by decide +kernel), by decide +kernel, rfl, by decide +kernel, g_mem 52 (by decide +kernel) (by decide +kernel), by decide, by decide⟩
def y_Sw_cellOfSpot : MethodName := ⟨"SwungShips", "cellOfSpot", "(I)I"⟩
def x_Sw_cellOfSpot : CX := ("SwungShips", prog_1_method_32_code, 2, some .int, false)
theorem m_Sw_cellOfSpot : MOK y_Sw_cellOfSpot x_Sw_cellOfSpot 1 := ⟨g_mem 479 (by decide +kernel) (by decide +kernel), by decide +kernel, rfl, by decide +kernel, g_mem 52 (by decide +kernel) (by decide +kernel), by decide, by decide⟩
def y_Sear_settlesByMoves : MethodName := ⟨"SwungShips$Search", "settlesByMoves", "(LSwungShips$Harbour;I)Z"⟩
def x_Sear_settlesByMoves : CX := ("SwungShips$Search", prog_6_method_5_code, 5, some .boolean, false)
theorem m_Sear_settlesByMoves : MOK y_Sear_settlesByMoves x_Sear_settlesByMoves 2 := ⟨g_mem 485 (by decide +kernel) (by decide +kernel), by decide +kernel, rfl, by decide +kernel, g_mem 55 (by decide +kernel) (by decide +kernel), by decide, by decide⟩
def y_Sear_settlesMoving : MethodName := ⟨"SwungShips$Search", "settlesMoving", "(LSwungShips$Harbour;II)Z"⟩
def x_Sear_settlesMoving : CX := ("SwungShips$Search", prog_6_method_6_code, 5, some .boolean, false)
theorem m_Sear_settlesMoving : MOK y_Sear_settlesMoving x_Sear_settlesMoving 3 := ⟨g_mem 490 (by decide +kernel) (by decide +kernel), by decide +kernel, rfl, by decide +kernel, g_mem 55 (by decide +kernel) (by decide +kernel), by decide, by decide⟩
def y_Sw_moves : MethodName := ⟨"SwungShips", "moves", "(II)I"⟩
def x_Sw_moves : CX := ("SwungShips", prog_1_method_6_code, 3, some .int, false)
theorem m_Sw_moves : MOK y_Sw_moves x_Sw_moves 2 := ⟨g_mem 495 (by decide +kernel) (by decide +kernel), by decide +kernel, rfl, by decide +kernel, g_mem 52 (by decide +kernel) (by decide +kernel), by decide, by decide⟩
def y_Sw_lies : MethodName := ⟨"SwungShips", "lies", "(IIII)I"⟩
def x_Sw_lies : CX := ("SwungShips", prog_1_method_7_code, 5, some .int, false)
theorem m_Sw_lies : MOK y_Sw_lies x_Sw_lies 4 := ⟨g_mem 499 (by decide +kernel) (by decide +kernel), by decide +kernel, rfl, by decide +kernel, g_mem 52 (by decide +kernel) (by decide +kernel), by decide, by decide⟩
def y_Swing_liesOn : MethodName := ⟨"SwungShips$Swing", "liesOn", "(LSwungShips$Harbour;IIII)Z"⟩
def x_Swing_liesOn : CX := ("SwungShips$Swing", prog_7_method_5_code, 7, some .boolean, false)
theorem m_Swing_liesOn : MOK y_Swing_liesOn x_Swing_liesOn 5 := ⟨g_mem 502 (by decide +kernel) (by decide +kernel), by decide +kernel, rfl, by decide +kernel, g_mem 59 (by decide +kernel) (by decide +kernel), by decide, by decide⟩
def y_Sw_harbour : MethodName := ⟨"SwungShips", "harbour", "(II)I"⟩
def x_Sw_harbour : CX := ("SwungShips", prog_1_method_8_code, 4, some .int, false)
theorem m_Sw_harbour : MOK y_Sw_harbour x_Sw_harbour 2 := ⟨g_mem 506 (by decide +kernel) (by decide +kernel), by decide +kernel, rfl, by decide +kernel, g_mem 52 (by decide +kernel) (by decide +kernel), by decide, by decide⟩
def y_Sw_isOut : MethodName := ⟨"SwungShips", "isOut", "(III)Z"⟩
def x_Sw_isOut : CX := ("SwungShips", prog_1_method_26_code, 3, some .boolean, false)
theorem m_Sw_isOut : MOK y_Sw_isOut x_Sw_isOut 3 := ⟨g_mem 509 (by decide +kernel) (by decide +kernel), by decide +kernel, rfl, by decide +kernel, g_mem 52 (by decide +kernel) (by decide +kernel), by decide, by decide⟩
def y_Hist_remember : MethodName := ⟨"SwungShips$History", "remember", "(LSwungShips$Harbour;)V"⟩
def x_Hist_remember : CX := ("SwungShips$History", prog_4_method_2_code, 2, none, false)
theorem m_Hist_remember : MOK y_Hist_remember x_Hist_remember 1 := ⟨g_mem 513 (by decide +kernel) (by decide +kernel), by decide +kernel, rfl, by decide +kernel, g_mem 54 (by decide +kernel) (by decide +kernel), by decide, by decide⟩
def y_Harb_copyFrom : MethodName := ⟨"SwungShips$Harbour", "copyFrom", "(LSwungShips$Harbour;)V"⟩
def x_Harb_copyFrom : CX := ("SwungShips$Harbour", prog_3_method_3_code, 2, none, false)
theorem m_Harb_copyFrom : MOK y_Harb_copyFrom x_Harb_copyFrom 1 := ⟨g_mem 517 (by decide +kernel) (by decide +kernel), by decide +kernel, rfl, by decide +kernel, g_mem 53 (by decide +kernel) (by decide +kernel), by decide, by decide⟩
def y_Sw_depth : MethodName := ⟨"SwungShips", "depth", "(III)I"⟩
def x_Sw_depth : CX := ("SwungShips", prog_1_method_9_code, 5, some .int, false)
theorem m_Sw_depth : MOK y_Sw_depth x_Sw_depth 3 := ⟨g_mem 526 (by decide +kernel) (by decide +kernel), by decide +kernel, rfl, by decide +kernel, g_mem 52 (by decide +kernel) (by decide +kernel), by decide, by decide⟩
def y_Harb_changeDepth : MethodName := ⟨"SwungShips$Harbour", "changeDepth", "(II)V"⟩
def x_Harb_changeDepth : CX := ("SwungShips$Harbour", prog_3_method_11_code, 3, none, false)
theorem m_Harb_changeDepth : MOK y_Harb_changeDepth x_Harb_changeDepth 2 := ⟨g_mem 530 (by decide +kernel) (by decide +kernel), by decide +kernel, rfl, by decide +kernel, g_mem 53 (by decide +kernel) (by decide +kernel), by decide, by decide⟩
def y_Sw_tide : MethodName := ⟨"SwungShips", "tide", "(I)I"⟩
def x_Sw_tide : CX := ("SwungShips", prog_1_method_10_code, 3, some .int, false)
theorem m_Sw_tide : MOK y_Sw_tide x_Sw_tide 1 := ⟨g_mem 534 (by decide +kernel) (by decide +kernel), by decide +kernel, rfl, by decide +kernel, g_mem 52 (by decide +kernel) (by decide +kernel), by decide, by decide⟩
def y_Sw_winds : MethodName := ⟨"SwungShips", "winds", "(I)I"⟩
def x_Sw_winds : CX := ("SwungShips", prog_1_method_11_code, 3, some .int, false)
theorem m_Sw_winds : MOK y_Sw_winds x_Sw_winds 1 := ⟨g_mem 538 (by decide +kernel) (by decide +kernel), by decide +kernel, rfl, by decide +kernel, g_mem 52 (by decide +kernel) (by decide +kernel), by decide, by decide⟩
def y_Sw_arrive : MethodName := ⟨"SwungShips", "arrive", "(III)I"⟩
def x_Sw_arrive : CX := ("SwungShips", prog_1_method_12_code, 4, some .int, false)
theorem m_Sw_arrive : MOK y_Sw_arrive x_Sw_arrive 3 := ⟨g_mem 542 (by decide +kernel) (by decide +kernel), by decide +kernel, rfl, by decide +kernel, g_mem 52 (by decide +kernel) (by decide +kernel), by decide, by decide⟩
def y_Harb_letWait : MethodName := ⟨"SwungShips$Harbour", "letWait", "(III)V"⟩
def x_Harb_letWait : CX := ("SwungShips$Harbour", prog_3_method_12_code, 5, none, false)
theorem m_Harb_letWait : MOK y_Harb_letWait x_Harb_letWait 3 := ⟨g_mem 547 (by decide +kernel) (by decide +kernel), by decide +kernel, rfl, by decide +kernel, g_mem 53 (by decide +kernel) (by decide +kernel), by decide, by decide⟩
def y_Sw_anchor : MethodName := ⟨"SwungShips", "anchor", "(III)I"⟩
def x_Sw_anchor : CX := ("SwungShips", prog_1_method_13_code, 5, some .int, false)
theorem m_Sw_anchor : MOK y_Sw_anchor x_Sw_anchor 3 := ⟨g_mem 551 (by decide +kernel) (by decide +kernel), by decide +kernel, rfl, by decide +kernel, g_mem 52 (by decide +kernel) (by decide +kernel), by decide, by decide⟩
def y_Harb_bringToAnchor : MethodName := ⟨"SwungShips$Harbour", "bringToAnchor", "(II)V"⟩
def x_Harb_bringToAnchor : CX := ("SwungShips$Harbour", prog_3_method_14_code, 3, none, false)
theorem m_Harb_bringToAnchor : MOK y_Harb_bringToAnchor x_Harb_bringToAnchor 2 := ⟨g_mem 556 (by decide +kernel) (by decide +kernel), by decide +kernel, rfl, by decide +kernel, g_mem 53 (by decide +kernel) (by decide +kernel), by decide, by decide⟩
def y_Harb_copySlot : MethodName := ⟨"SwungShips$Harbour", "copySlot", "(II)V"⟩
def x_Harb_copySlot : CX := ("SwungShips$Harbour", prog_3_method_17_code, 3, none, false)
theorem m_Harb_copySlot : MOK y_Harb_copySlot x_Harb_copySlot 2 := ⟨g_mem 560 (by decide +kernel) (by decide +kernel), by decide +kernel, rfl, by decide +kernel, g_mem 53 (by decide +kernel) (by decide +kernel), by decide, by decide⟩
def y_Harb_putAt : MethodName := ⟨"SwungShips$Harbour", "putAt", "(II)V"⟩
def x_Harb_putAt : CX := ("SwungShips$Harbour", prog_3_method_13_code, 3, none, false)
theorem m_Harb_putAt : MOK y_Harb_putAt x_Harb_putAt 2 := ⟨g_mem 564 (by decide +kernel) (by decide +kernel), by decide +kernel, rfl, by decide +kernel, g_mem 53 (by decide +kernel) (by decide +kernel), by decide, by decide⟩
def y_Harb_dropWaiting : MethodName := ⟨"SwungShips$Harbour", "dropWaiting", "(I)V"⟩
def x_Harb_dropWaiting : CX := ("SwungShips$Harbour", prog_3_method_16_code, 3, none, false)
theorem m_Harb_dropWaiting : MOK y_Harb_dropWaiting x_Harb_dropWaiting 1 := ⟨g_mem 570 (by decide +kernel) (by decide +kernel), by decide +kernel, rfl, by decide +kernel, g_mem 53 (by decide +kernel) (by decide +kernel), by decide, by decide⟩
def y_Sw_fit : MethodName := ⟨"SwungShips", "fit", "(I)I"⟩
def x_Sw_fit : CX := ("SwungShips", prog_1_method_14_code, 3, some .int, false)
theorem m_Sw_fit : MOK y_Sw_fit x_Sw_fit 1 := ⟨g_mem 574 (by decide +kernel) (by decide +kernel), by decide +kernel, rfl, by decide +kernel, g_mem 52 (by decide +kernel) (by decide +kernel), by decide, by decide⟩
def y_Sw_fitAll : MethodName := ⟨"SwungShips", "fitAll", "()I"⟩
def x_Sw_fitAll : CX := ("SwungShips", prog_1_method_15_code, 3, some .int, false)
theorem m_Sw_fitAll : MOK y_Sw_fitAll x_Sw_fitAll 0 := ⟨g_mem 578 (by decide +kernel) (by decide +kernel), by decide +kernel, rfl, by decide +kernel, g_mem 52 (by decide +kernel) (by decide +kernel), by decide, by decide⟩
def y_Sw_shift : MethodName := ⟨"SwungShips", "shift", "(I)I"⟩
def x_Sw_shift : CX := ("SwungShips", prog_1_method_16_code, 3, some .int, false)
theorem m_Sw_shift : MOK y_Sw_shift x_Sw_shift 1 := ⟨g_mem 582 (by decide +kernel) (by decide +kernel), by decide +kernel, rfl, by decide +kernel, g_mem 52 (by decide +kernel) (by decide +kernel), by decide, by decide⟩
def y_Sw_leave : MethodName := ⟨"SwungShips", "leave", "(I)I"⟩
def x_Sw_leave : CX := ("SwungShips", prog_1_method_17_code, 2, some .int, false)
theorem m_Sw_leave : MOK y_Sw_leave x_Sw_leave 1 := ⟨g_mem 587 (by decide +kernel) (by decide +kernel), by decide +kernel, rfl, by decide +kernel, g_mem 52 (by decide +kernel) (by decide +kernel), by decide, by decide⟩
def y_Harb_dropAnchored : MethodName := ⟨"SwungShips$Harbour", "dropAnchored", "(I)V"⟩
def x_Harb_dropAnchored : CX := ("SwungShips$Harbour", prog_3_method_15_code, 3, none, false)
theorem m_Harb_dropAnchored : MOK y_Harb_dropAnchored x_Harb_dropAnchored 1 := ⟨g_mem 591 (by decide +kernel) (by decide +kernel), by decide +kernel, rfl, by decide +kernel, g_mem 53 (by decide +kernel) (by decide +kernel), by decide, by decide⟩
def y_Sw_turnAway : MethodName := ⟨"SwungShips", "turnAway", "(I)I"⟩
def x_Sw_turnAway : CX := ("SwungShips", prog_1_method_18_code, 2, some .int, false)
theorem m_Sw_turnAway : MOK y_Sw_turnAway x_Sw_turnAway 1 := ⟨g_mem 595 (by decide +kernel) (by decide +kernel), by decide +kernel, rfl, by decide +kernel, g_mem 52 (by decide +kernel) (by decide +kernel), by decide, by decide⟩
def y_Sw_drift : MethodName := ⟨"SwungShips", "drift", "(I)I"⟩
def x_Sw_drift : CX := ("SwungShips", prog_1_method_19_code, 4, some .int, false)
theorem m_Sw_drift : MOK y_Sw_drift x_Sw_drift 1 := ⟨g_mem 600 (by decide +kernel) (by decide +kernel), by decide +kernel, rfl, by decide +kernel, g_mem 52 (by decide +kernel) (by decide +kernel), by decide, by decide⟩
def y_Sw_draw : MethodName := ⟨"SwungShips", "draw", "(I)I"⟩
def x_Sw_draw : CX := ("SwungShips", prog_1_method_33_code, 2, some .int, false)
theorem m_Sw_draw : MOK y_Sw_draw x_Sw_draw 1 := ⟨g_mem 604 (by decide +kernel) (by decide +kernel), by decide +kernel, rfl, by decide +kernel, g_mem 52 (by decide +kernel) (by decide +kernel), by decide, by decide⟩
def y_Sw_undo : MethodName := ⟨"SwungShips", "undo", "(I)I"⟩
def x_Sw_undo : CX := ("SwungShips", prog_1_method_20_code, 2, some .int, false)
theorem m_Sw_undo : MOK y_Sw_undo x_Sw_undo 1 := ⟨g_mem 611 (by decide +kernel) (by decide +kernel), by decide +kernel, rfl, by decide +kernel, g_mem 52 (by decide +kernel) (by decide +kernel), by decide, by decide⟩
def y_Hist_bringBack : MethodName := ⟨"SwungShips$History", "bringBack", "(ILSwungShips$Harbour;)V"⟩
def x_Hist_bringBack : CX := ("SwungShips$History", prog_4_method_3_code, 3, none, false)
theorem m_Hist_bringBack : MOK y_Hist_bringBack x_Hist_bringBack 2 := ⟨g_mem 615 (by decide +kernel) (by decide +kernel), by decide +kernel, rfl, by decide +kernel, g_mem 54 (by decide +kernel) (by decide +kernel), by decide, by decide⟩
def y_Math_floorMod : MethodName := ⟨"java/lang/Math", "floorMod", "(II)I"⟩
def x_Math_floorMod : CX := ("java/lang/Math", prog_12_method_50_code, 3, some .int, false)
theorem m_Math_floorMod : MOK y_Math_floorMod x_Math_floorMod 2 := ⟨g_mem 618 (by decide +kernel) (by decide +kernel), by decide +kernel, rfl, by decide +kernel, g_mem 60 (by decide +kernel) (by decide +kernel), by decide, by decide⟩
def y_Sw_write : MethodName := ⟨"SwungShips", "write", "(II)I"⟩
def x_Sw_write : CX := ("SwungShips", prog_1_method_21_code, 3, some .int, false)
theorem m_Sw_write : MOK y_Sw_write x_Sw_write 2 := ⟨g_mem 622 (by decide +kernel) (by decide +kernel), by decide +kernel, rfl, by decide +kernel, g_mem 52 (by decide +kernel) (by decide +kernel), by decide, by decide⟩
def y_Book_add : MethodName := ⟨"SwungShips$Book", "add", "(II)V"⟩
def x_Book_add : CX := ("SwungShips$Book", prog_2_method_2_code, 3, none, false)
theorem m_Book_add : MOK y_Book_add x_Book_add 2 := ⟨g_mem 626 (by decide +kernel) (by decide +kernel), by decide +kernel, rfl, by decide +kernel, g_mem 56 (by decide +kernel) (by decide +kernel), by decide, by decide⟩
def y_Sw_tear : MethodName := ⟨"SwungShips", "tear", "()I"⟩
def x_Sw_tear : CX := ("SwungShips", prog_1_method_22_code, 2, some .int, false)
theorem m_Sw_tear : MOK y_Sw_tear x_Sw_tear 0 := ⟨g_mem 630 (by decide +kernel) (by decide +kernel), by decide +kernel, rfl, by decide +kernel, g_mem 52 (by decide +kernel) (by decide +kernel), by decide, by decide⟩
def y_Sw_seed : MethodName := ⟨"SwungShips", "seed", "(I)I"⟩
def x_Sw_seed : CX := ("SwungShips", prog_1_method_23_code, 3, some .int, false)
theorem m_Sw_seed : MOK y_Sw_seed x_Sw_seed 1 := ⟨g_mem 634 (by decide +kernel) (by decide +kernel), by decide +kernel, rfl, by decide +kernel, g_mem 52 (by decide +kernel) (by decide +kernel), by decide, by decide⟩
def y_Sw_keep : MethodName := ⟨"SwungShips", "keep", "(I)I"⟩
def x_Sw_keep : CX := ("SwungShips", prog_1_method_24_code, 2, some .int, false)
theorem m_Sw_keep : MOK y_Sw_keep x_Sw_keep 1 := ⟨g_mem 638 (by decide +kernel) (by decide +kernel), by decide +kernel, rfl, by decide +kernel, g_mem 52 (by decide +kernel) (by decide +kernel), by decide, by decide⟩
def y_Imag_take : MethodName := ⟨"SwungShips$Image", "take", "(LSwungShips$Harbour;I)V"⟩
def x_Imag_take : CX := ("SwungShips$Image", prog_5_method_2_code, 3, none, false)
theorem m_Imag_take : MOK y_Imag_take x_Imag_take 2 := ⟨g_mem 642 (by decide +kernel) (by decide +kernel), by decide +kernel, rfl, by decide +kernel, g_mem 57 (by decide +kernel) (by decide +kernel), by decide, by decide⟩
def y_Hist_forget : MethodName := ⟨"SwungShips$History", "forget", "()V"⟩
def x_Hist_forget : CX := ("SwungShips$History", prog_4_method_4_code, 1, none, false)
theorem m_Hist_forget : MOK y_Hist_forget x_Hist_forget 0 := ⟨g_mem 647 (by decide +kernel) (by decide +kernel), by decide +kernel, rfl, by decide +kernel, g_mem 54 (by decide +kernel) (by decide +kernel), by decide, by decide⟩
def y_Sw_goBack : MethodName := ⟨"SwungShips", "goBack", "(I)I"⟩
def x_Sw_goBack : CX := ("SwungShips", prog_1_method_25_code, 2, some .int, false)
theorem m_Sw_goBack : MOK y_Sw_goBack x_Sw_goBack 1 := ⟨g_mem 651 (by decide +kernel) (by decide +kernel), by decide +kernel, rfl, by decide +kernel, g_mem 52 (by decide +kernel) (by decide +kernel), by decide, by decide⟩
def y_Mod_init : MethodName := ⟨"SwungShipsModel", "<init>", "()V"⟩
def x_Mod_init : CX := ("SwungShipsModel", prog_9_method_1_code, 1, none, true)
theorem m_Mod_init : MOK y_Mod_init x_Mod_init 0 := ⟨g_mem 657 (by decide +kernel) (by decide +kernel), by decide +kernel, rfl, by decide +kernel, g_mem 58 (by decide +kernel) (by decide +kernel), by decide, by decide⟩
def y_Mod_begin : MethodName := ⟨"SwungShipsModel", "begin", "(II)V"⟩
def x_Mod_begin : CX := ("SwungShipsModel", prog_9_method_2_code, 4, none, false)
theorem m_Mod_begin : MOK y_Mod_begin x_Mod_begin 2 := ⟨g_mem 662 (by decide +kernel) (by decide +kernel), by decide +kernel, rfl, by decide +kernel, g_mem 58 (by decide +kernel) (by decide +kernel), by decide, by decide⟩
def y_Mod_told : MethodName := ⟨"SwungShipsModel", "told", "(I)I"⟩
def x_Mod_told : CX := ("SwungShipsModel", prog_9_method_42_code, 2, some .int, false)
theorem m_Mod_told : MOK y_Mod_told x_Mod_told 1 := ⟨g_mem 704 (by decide +kernel) (by decide +kernel), by decide +kernel, rfl, by decide +kernel, g_mem 58 (by decide +kernel) (by decide +kernel), by decide, by decide⟩
def y_Mod_danger : MethodName := ⟨"SwungShipsModel", "danger", "()I"⟩
def x_Mod_danger : CX := ("SwungShipsModel", prog_9_method_25_code, 3, some .int, false)
theorem m_Mod_danger : MOK y_Mod_danger x_Mod_danger 0 := ⟨g_mem 708 (by decide +kernel) (by decide +kernel), by decide +kernel, rfl, by decide +kernel, g_mem 58 (by decide +kernel) (by decide +kernel), by decide, by decide⟩
def y_Mod_liesWell : MethodName := ⟨"SwungShipsModel", "liesWell", "(I)Z"⟩
def x_Mod_liesWell : CX := ("SwungShipsModel", prog_9_method_24_code, 2, some .boolean, false)
theorem m_Mod_liesWell : MOK y_Mod_liesWell x_Mod_liesWell 1 := ⟨g_mem 712 (by decide +kernel) (by decide +kernel), by decide +kernel, rfl, by decide +kernel, g_mem 58 (by decide +kernel) (by decide +kernel), by decide, by decide⟩
def y_Mod_shipAt : MethodName := ⟨"SwungShipsModel", "shipAt", "(I)I"⟩
def x_Mod_shipAt : CX := ("SwungShipsModel", prog_9_method_6_code, 1, some .int, false)
theorem m_Mod_shipAt : MOK y_Mod_shipAt x_Mod_shipAt 1 := ⟨g_mem 715 (by decide +kernel) (by decide +kernel), by decide +kernel, rfl, by decide +kernel, g_mem 58 (by decide +kernel) (by decide +kernel), by decide, by decide⟩
def y_Mod_mayLie : MethodName := ⟨"SwungShipsModel", "mayLie", "(II)Z"⟩
def x_Mod_mayLie : CX := ("SwungShipsModel", prog_9_method_20_code, 3, some .boolean, false)
theorem m_Mod_mayLie : MOK y_Mod_mayLie x_Mod_mayLie 2 := ⟨g_mem 719 (by decide +kernel) (by decide +kernel), by decide +kernel, rfl, by decide +kernel, g_mem 58 (by decide +kernel) (by decide +kernel), by decide, by decide⟩
def y_Mod_leastWater : MethodName := ⟨"SwungShipsModel", "leastWater", "(IIZ)I"⟩
def x_Mod_leastWater : CX := ("SwungShipsModel", prog_9_method_19_code, 10, some .int, false)
theorem m_Mod_leastWater : MOK y_Mod_leastWater x_Mod_leastWater 3 := ⟨g_mem 723 (by decide +kernel) (by decide +kernel), by decide +kernel, rfl, by decide +kernel, g_mem 58 (by decide +kernel) (by decide +kernel), by decide, by decide⟩
def y_Mod_has : MethodName := ⟨"SwungShipsModel", "has", "(II)Z"⟩
def x_Mod_has : CX := ("SwungShipsModel", prog_9_method_4_code, 2, some .boolean, false)
theorem m_Mod_has : MOK y_Mod_has x_Mod_has 2 := ⟨g_mem 726 (by decide +kernel) (by decide +kernel), by decide +kernel, rfl, by decide +kernel, g_mem 58 (by decide +kernel) (by decide +kernel), by decide, by decide⟩
def y_Mod_left : MethodName := ⟨"SwungShipsModel", "left", "(III)I"⟩
def x_Mod_left : CX := ("SwungShipsModel", prog_9_method_15_code, 4, some .int, false)
theorem m_Mod_left : MOK y_Mod_left x_Mod_left 3 := ⟨g_mem 730 (by decide +kernel) (by decide +kernel), by decide +kernel, rfl, by decide +kernel, g_mem 58 (by decide +kernel) (by decide +kernel), by decide, by decide⟩
def y_Mod_windX : MethodName := ⟨"SwungShipsModel", "windX", "(I)I"⟩
def x_Mod_windX : CX := ("SwungShipsModel", prog_9_method_13_code, 1, some .int, false)
theorem m_Mod_windX : MOK y_Mod_windX x_Mod_windX 1 := ⟨g_mem 733 (by decide +kernel) (by decide +kernel), by decide +kernel, rfl, by decide +kernel, g_mem 58 (by decide +kernel) (by decide +kernel), by decide, by decide⟩
def y_Mod_top : MethodName := ⟨"SwungShipsModel", "top", "(III)I"⟩
def x_Mod_top : CX := ("SwungShipsModel", prog_9_method_16_code, 4, some .int, false)
theorem m_Mod_top : MOK y_Mod_top x_Mod_top 3 := ⟨g_mem 737 (by decide +kernel) (by decide +kernel), by decide +kernel, rfl, by decide +kernel, g_mem 58 (by decide +kernel) (by decide +kernel), by decide, by decide⟩
def y_Mod_windY : MethodName := ⟨"SwungShipsModel", "windY", "(I)I"⟩
def x_Mod_windY : CX := ("SwungShipsModel", prog_9_method_14_code, 1, some .int, false)
theorem m_Mod_windY : MOK y_Mod_windY x_Mod_windY 1 := ⟨g_mem 740 (by decide +kernel) (by decide +kernel), by decide +kernel, rfl, by decide +kernel, g_mem 58 (by decide +kernel) (by decide +kernel), by decide, by decide⟩
def y_Mod_isCell : MethodName := ⟨"SwungShipsModel", "isCell", "(II)Z"⟩
def x_Mod_isCell : CX := ("SwungShipsModel", prog_9_method_11_code, 3, some .boolean, false)
theorem m_Mod_isCell : MOK y_Mod_isCell x_Mod_isCell 2 := ⟨g_mem 744 (by decide +kernel) (by decide +kernel), by decide +kernel, rfl, by decide +kernel, g_mem 58 (by decide +kernel) (by decide +kernel), by decide, by decide⟩
def y_Mod_in : MethodName := ⟨"SwungShipsModel", "in", "(III)Z"⟩
def x_Mod_in : CX := ("SwungShipsModel", prog_9_method_3_code, 3, some .boolean, false)
theorem m_Mod_in : MOK y_Mod_in x_Mod_in 3 := ⟨g_mem 747 (by decide +kernel) (by decide +kernel), by decide +kernel, rfl, by decide +kernel, g_mem 58 (by decide +kernel) (by decide +kernel), by decide, by decide⟩
def y_Mod_water : MethodName := ⟨"SwungShipsModel", "water", "(II)I"⟩
def x_Mod_water : CX := ("SwungShipsModel", prog_9_method_12_code, 4, some .int, false)
theorem m_Mod_water : MOK y_Mod_water x_Mod_water 2 := ⟨g_mem 751 (by decide +kernel) (by decide +kernel), by decide +kernel, rfl, by decide +kernel, g_mem 58 (by decide +kernel) (by decide +kernel), by decide, by decide⟩
def y_Mod_clashes : MethodName := ⟨"SwungShipsModel", "clashes", "(I)I"⟩
def x_Mod_clashes : CX := ("SwungShipsModel", prog_9_method_23_code, 4, some .int, false)
theorem m_Mod_clashes : MOK y_Mod_clashes x_Mod_clashes 1 := ⟨g_mem 755 (by decide +kernel) (by decide +kernel), by decide +kernel, rfl, by decide +kernel, g_mem 58 (by decide +kernel) (by decide +kernel), by decide, by decide⟩
def y_Mod_clash : MethodName := ⟨"SwungShipsModel", "clash", "(IIII)Z"⟩
def x_Mod_clash : CX := ("SwungShipsModel", prog_9_method_22_code, 9, some .boolean, false)
theorem m_Mod_clash : MOK y_Mod_clash x_Mod_clash 4 := ⟨g_mem 759 (by decide +kernel) (by decide +kernel), by decide +kernel, rfl, by decide +kernel, g_mem 58 (by decide +kernel) (by decide +kernel), by decide, by decide⟩
def y_Mod_share : MethodName := ⟨"SwungShipsModel", "share", "(IIII)Z"⟩
def x_Mod_share : CX := ("SwungShipsModel", prog_9_method_21_code, 4, some .boolean, false)
theorem m_Mod_share : MOK y_Mod_share x_Mod_share 4 := ⟨g_mem 762 (by decide +kernel) (by decide +kernel), by decide +kernel, rfl, by decide +kernel, g_mem 58 (by decide +kernel) (by decide +kernel), by decide, by decide⟩
def y_Mod_clashPairs : MethodName := ⟨"SwungShipsModel", "clashPairs", "()I"⟩
def x_Mod_clashPairs : CX := ("SwungShipsModel", prog_9_method_37_code, 3, some .int, false)
theorem m_Mod_clashPairs : MOK y_Mod_clashPairs x_Mod_clashPairs 0 := ⟨g_mem 766 (by decide +kernel) (by decide +kernel), by decide +kernel, rfl, by decide +kernel, g_mem 58 (by decide +kernel) (by decide +kernel), by decide, by decide⟩
def y_Mod_ones : MethodName := ⟨"SwungShipsModel", "ones", "(I)I"⟩
def x_Mod_ones : CX := ("SwungShipsModel", prog_9_method_34_code, 3, some .int, false)
theorem m_Mod_ones : MOK y_Mod_ones x_Mod_ones 1 := ⟨g_mem 769 (by decide +kernel) (by decide +kernel), by decide +kernel, rfl, by decide +kernel, g_mem 58 (by decide +kernel) (by decide +kernel), by decide, by decide⟩
def y_Mod_placesForAll : MethodName := ⟨"SwungShipsModel", "placesForAll", "()Z"⟩
def x_Mod_placesForAll : CX := ("SwungShipsModel", prog_9_method_33_code, 2, some .boolean, false)
theorem m_Mod_placesForAll : MOK y_Mod_placesForAll x_Mod_placesForAll 0 := ⟨g_mem 773 (by decide +kernel) (by decide +kernel), by decide +kernel, rfl, by decide +kernel, g_mem 58 (by decide +kernel) (by decide +kernel), by decide, by decide⟩
def y_Mod_waitAt : MethodName := ⟨"SwungShipsModel", "waitAt", "(I)I"⟩
def x_Mod_waitAt : CX := ("SwungShipsModel", prog_9_method_7_code, 1, some .int, false)
theorem m_Mod_waitAt : MOK y_Mod_waitAt x_Mod_waitAt 1 := ⟨g_mem 776 (by decide +kernel) (by decide +kernel), by decide +kernel, rfl, by decide +kernel, g_mem 58 (by decide +kernel) (by decide +kernel), by decide, by decide⟩
def y_Mod_tryRows : MethodName := ⟨"SwungShipsModel", "tryRows", "(II)Z"⟩
def x_Mod_tryRows : CX := ("SwungShipsModel", prog_9_method_32_code, 4, some .boolean, false)
theorem m_Mod_tryRows : MOK y_Mod_tryRows x_Mod_tryRows 2 := ⟨g_mem 780 (by decide +kernel) (by decide +kernel), by decide +kernel, rfl, by decide +kernel, g_mem 58 (by decide +kernel) (by decide +kernel), by decide, by decide⟩
def y_Mod_layFree : MethodName := ⟨"SwungShipsModel", "layFree", "(II)V"⟩
def x_Mod_layFree : CX := ("SwungShipsModel", prog_9_method_31_code, 5, none, false)
theorem m_Mod_layFree : MOK y_Mod_layFree x_Mod_layFree 2 := ⟨g_mem 784 (by decide +kernel) (by decide +kernel), by decide +kernel, rfl, by decide +kernel, g_mem 58 (by decide +kernel) (by decide +kernel), by decide, by decide⟩
def y_Mod_cells : MethodName := ⟨"SwungShipsModel", "cells", "()I"⟩
def x_Mod_cells : CX := ("SwungShipsModel", prog_9_method_8_code, 1, some .int, false)
theorem m_Mod_cells : MOK y_Mod_cells x_Mod_cells 0 := ⟨g_mem 788 (by decide +kernel) (by decide +kernel), by decide +kernel, rfl, by decide +kernel, g_mem 58 (by decide +kernel) (by decide +kernel), by decide, by decide⟩
def y_Mod_isFree : MethodName := ⟨"SwungShipsModel", "isFree", "(III)Z"⟩
def x_Mod_isFree : CX := ("SwungShipsModel", prog_9_method_27_code, 6, some .boolean, false)
theorem m_Mod_isFree : MOK y_Mod_isFree x_Mod_isFree 3 := ⟨g_mem 792 (by decide +kernel) (by decide +kernel), by decide +kernel, rfl, by decide +kernel, g_mem 58 (by decide +kernel) (by decide +kernel), by decide, by decide⟩
def y_Mod_fitsBehind : MethodName := ⟨"SwungShipsModel", "fitsBehind", "(I)Z"⟩
def x_Mod_fitsBehind : CX := ("SwungShipsModel", prog_9_method_30_code, 4, some .boolean, false)
theorem m_Mod_fitsBehind : MOK y_Mod_fitsBehind x_Mod_fitsBehind 1 := ⟨g_mem 796 (by decide +kernel) (by decide +kernel), by decide +kernel, rfl, by decide +kernel, g_mem 58 (by decide +kernel) (by decide +kernel), by decide, by decide⟩
def y_Mod_threats : MethodName := ⟨"SwungShipsModel", "threats", "()I"⟩
def x_Mod_threats : CX := ("SwungShipsModel", prog_9_method_26_code, 5, some .int, false)
theorem m_Mod_threats : MOK y_Mod_threats x_Mod_threats 0 := ⟨g_mem 800 (by decide +kernel) (by decide +kernel), by decide +kernel, rfl, by decide +kernel, g_mem 58 (by decide +kernel) (by decide +kernel), by decide, by decide⟩
def y_Mod_swept : MethodName := ⟨"SwungShipsModel", "swept", "()I"⟩
def x_Mod_swept : CX := ("SwungShipsModel", prog_9_method_39_code, 3, some .int, false)
theorem m_Mod_swept : MOK y_Mod_swept x_Mod_swept 0 := ⟨g_mem 804 (by decide +kernel) (by decide +kernel), by decide +kernel, rfl, by decide +kernel, g_mem 58 (by decide +kernel) (by decide +kernel), by decide, by decide⟩
def y_Mod_sweepers : MethodName := ⟨"SwungShipsModel", "sweepers", "(II)I"⟩
def x_Mod_sweepers : CX := ("SwungShipsModel", prog_9_method_38_code, 5, some .int, false)
theorem m_Mod_sweepers : MOK y_Mod_sweepers x_Mod_sweepers 2 := ⟨g_mem 808 (by decide +kernel) (by decide +kernel), by decide +kernel, rfl, by decide +kernel, g_mem 58 (by decide +kernel) (by decide +kernel), by decide, by decide⟩
def y_Mod_sweeps : MethodName := ⟨"SwungShipsModel", "sweeps", "(IIII)Z"⟩
def x_Mod_sweeps : CX := ("SwungShipsModel", prog_9_method_18_code, 7, some .boolean, false)
theorem m_Mod_sweeps : MOK y_Mod_sweeps x_Mod_sweeps 4 := ⟨g_mem 812 (by decide +kernel) (by decide +kernel), by decide +kernel, rfl, by decide +kernel, g_mem 58 (by decide +kernel) (by decide +kernel), by decide, by decide⟩
def y_Mod_liesOn : MethodName := ⟨"SwungShipsModel", "liesOn", "(IIIII)Z"⟩
def x_Mod_liesOn : CX := ("SwungShipsModel", prog_9_method_17_code, 8, some .boolean, false)
theorem m_Mod_liesOn : MOK y_Mod_liesOn x_Mod_liesOn 5 := ⟨g_mem 816 (by decide +kernel) (by decide +kernel), by decide +kernel, rfl, by decide +kernel, g_mem 58 (by decide +kernel) (by decide +kernel), by decide, by decide⟩
def y_Mod_wrongEntry : MethodName := ⟨"SwungShipsModel", "wrongEntry", "()I"⟩
def x_Mod_wrongEntry : CX := ("SwungShipsModel", prog_9_method_41_code, 2, some .int, false)
theorem m_Mod_wrongEntry : MOK y_Mod_wrongEntry x_Mod_wrongEntry 0 := ⟨g_mem 820 (by decide +kernel) (by decide +kernel), by decide +kernel, rfl, by decide +kernel, g_mem 58 (by decide +kernel) (by decide +kernel), by decide, by decide⟩
def y_Mod_isShip : MethodName := ⟨"SwungShipsModel", "isShip", "(I)Z"⟩
def x_Mod_isShip : CX := ("SwungShipsModel", prog_9_method_9_code, 2, some .boolean, false)
theorem m_Mod_isShip : MOK y_Mod_isShip x_Mod_isShip 1 := ⟨g_mem 824 (by decide +kernel) (by decide +kernel), by decide +kernel, rfl, by decide +kernel, g_mem 58 (by decide +kernel) (by decide +kernel), by decide, by decide⟩
def y_Mod_cell : MethodName := ⟨"SwungShipsModel", "cell", "(III)I"⟩
def x_Mod_cell : CX := ("SwungShipsModel", prog_9_method_44_code, 5, some .int, false)
theorem m_Mod_cell : MOK y_Mod_cell x_Mod_cell 3 := ⟨g_mem 829 (by decide +kernel) (by decide +kernel), by decide +kernel, rfl, by decide +kernel, g_mem 58 (by decide +kernel) (by decide +kernel), by decide, by decide⟩
def y_Mod_fitters : MethodName := ⟨"SwungShipsModel", "fitters", "(I)I"⟩
def x_Mod_fitters : CX := ("SwungShipsModel", prog_9_method_43_code, 4, some .int, false)
theorem m_Mod_fitters : MOK y_Mod_fitters x_Mod_fitters 1 := ⟨g_mem 834 (by decide +kernel) (by decide +kernel), by decide +kernel, rfl, by decide +kernel, g_mem 58 (by decide +kernel) (by decide +kernel), by decide, by decide⟩
def y_Mod_ship : MethodName := ⟨"SwungShipsModel", "ship", "(II)I"⟩
def x_Mod_ship : CX := ("SwungShipsModel", prog_9_method_45_code, 4, some .int, false)
theorem m_Mod_ship : MOK y_Mod_ship x_Mod_ship 2 := ⟨g_mem 838 (by decide +kernel) (by decide +kernel), by decide +kernel, rfl, by decide +kernel, g_mem 58 (by decide +kernel) (by decide +kernel), by decide, by decide⟩
def y_Mod_sweptBy : MethodName := ⟨"SwungShipsModel", "sweptBy", "(I)I"⟩
def x_Mod_sweptBy : CX := ("SwungShipsModel", prog_9_method_40_code, 4, some .int, false)
theorem m_Mod_sweptBy : MOK y_Mod_sweptBy x_Mod_sweptBy 1 := ⟨g_mem 842 (by decide +kernel) (by decide +kernel), by decide +kernel, rfl, by decide +kernel, g_mem 58 (by decide +kernel) (by decide +kernel), by decide, by decide⟩
def y_Mod_waits : MethodName := ⟨"SwungShipsModel", "waits", "(II)I"⟩
def x_Mod_waits : CX := ("SwungShipsModel", prog_9_method_48_code, 3, some .int, false)
theorem m_Mod_waits : MOK y_Mod_waits x_Mod_waits 2 := ⟨g_mem 846 (by decide +kernel) (by decide +kernel), by decide +kernel, rfl, by decide +kernel, g_mem 58 (by decide +kernel) (by decide +kernel), by decide, by decide⟩
def y_Mod_isWaiting : MethodName := ⟨"SwungShipsModel", "isWaiting", "(I)Z"⟩
def x_Mod_isWaiting : CX := ("SwungShipsModel", prog_9_method_10_code, 2, some .boolean, false)
theorem m_Mod_isWaiting : MOK y_Mod_isWaiting x_Mod_isWaiting 1 := ⟨g_mem 850 (by decide +kernel) (by decide +kernel), by decide +kernel, rfl, by decide +kernel, g_mem 58 (by decide +kernel) (by decide +kernel), by decide, by decide⟩
def y_Mod_places : MethodName := ⟨"SwungShipsModel", "places", "(I)I"⟩
def x_Mod_places : CX := ("SwungShipsModel", prog_9_method_28_code, 4, some .int, false)
theorem m_Mod_places : MOK y_Mod_places x_Mod_places 1 := ⟨g_mem 854 (by decide +kernel) (by decide +kernel), by decide +kernel, rfl, by decide +kernel, g_mem 58 (by decide +kernel) (by decide +kernel), by decide, by decide⟩
def y_Mod_firstPlace : MethodName := ⟨"SwungShipsModel", "firstPlace", "(I)I"⟩
def x_Mod_firstPlace : CX := ("SwungShipsModel", prog_9_method_29_code, 3, some .int, false)
theorem m_Mod_firstPlace : MOK y_Mod_firstPlace x_Mod_firstPlace 1 := ⟨g_mem 858 (by decide +kernel) (by decide +kernel), by decide +kernel, rfl, by decide +kernel, g_mem 58 (by decide +kernel) (by decide +kernel), by decide, by decide⟩
def y_Mod_inFirst : MethodName := ⟨"SwungShipsModel", "inFirst", "(I)I"⟩
def x_Mod_inFirst : CX := ("SwungShipsModel", prog_9_method_46_code, 2, some .int, false)
theorem m_Mod_inFirst : MOK y_Mod_inFirst x_Mod_inFirst 1 := ⟨g_mem 862 (by decide +kernel) (by decide +kernel), by decide +kernel, rfl, by decide +kernel, g_mem 58 (by decide +kernel) (by decide +kernel), by decide, by decide⟩
def y_Mod_layMoves : MethodName := ⟨"SwungShipsModel", "layMoves", "(I)I"⟩
def x_Mod_layMoves : CX := ("SwungShipsModel", prog_9_method_36_code, 4, some .int, false)
theorem m_Mod_layMoves : MOK y_Mod_layMoves x_Mod_layMoves 1 := ⟨g_mem 866 (by decide +kernel) (by decide +kernel), by decide +kernel, rfl, by decide +kernel, g_mem 58 (by decide +kernel) (by decide +kernel), by decide, by decide⟩
def y_Mod_tryMoved : MethodName := ⟨"SwungShipsModel", "tryMoved", "(II)Z"⟩
def x_Mod_tryMoved : CX := ("SwungShipsModel", prog_9_method_35_code, 5, some .boolean, false)
theorem m_Mod_tryMoved : MOK y_Mod_tryMoved x_Mod_tryMoved 2 := ⟨g_mem 870 (by decide +kernel) (by decide +kernel), by decide +kernel, rfl, by decide +kernel, g_mem 58 (by decide +kernel) (by decide +kernel), by decide, by decide⟩
def y_Mod_movedBy : MethodName := ⟨"SwungShipsModel", "movedBy", "(I)I"⟩
def x_Mod_movedBy : CX := ("SwungShipsModel", prog_9_method_47_code, 2, some .int, false)
theorem m_Mod_movedBy : MOK y_Mod_movedBy x_Mod_movedBy 1 := ⟨g_mem 874 (by decide +kernel) (by decide +kernel), by decide +kernel, rfl, by decide +kernel, g_mem 58 (by decide +kernel) (by decide +kernel), by decide, by decide⟩
def y_Mod_moves : MethodName := ⟨"SwungShipsModel", "moves", "(II)I"⟩
def x_Mod_moves : CX := ("SwungShipsModel", prog_9_method_49_code, 3, some .int, false)
theorem m_Mod_moves : MOK y_Mod_moves x_Mod_moves 2 := ⟨g_mem 878 (by decide +kernel) (by decide +kernel), by decide +kernel, rfl, by decide +kernel, g_mem 58 (by decide +kernel) (by decide +kernel), by decide, by decide⟩
def y_Mod_lies : MethodName := ⟨"SwungShipsModel", "lies", "(IIII)I"⟩
def x_Mod_lies : CX := ("SwungShipsModel", prog_9_method_50_code, 5, some .int, false)
theorem m_Mod_lies : MOK y_Mod_lies x_Mod_lies 4 := ⟨g_mem 882 (by decide +kernel) (by decide +kernel), by decide +kernel, rfl, by decide +kernel, g_mem 58 (by decide +kernel) (by decide +kernel), by decide, by decide⟩
def y_Mod_harbour : MethodName := ⟨"SwungShipsModel", "harbour", "(II)I"⟩
def x_Mod_harbour : CX := ("SwungShipsModel", prog_9_method_53_code, 4, some .int, false)
theorem m_Mod_harbour : MOK y_Mod_harbour x_Mod_harbour 2 := ⟨g_mem 886 (by decide +kernel) (by decide +kernel), by decide +kernel, rfl, by decide +kernel, g_mem 58 (by decide +kernel) (by decide +kernel), by decide, by decide⟩
def y_Mod_remember : MethodName := ⟨"SwungShipsModel", "remember", "()V"⟩
def x_Mod_remember : CX := ("SwungShipsModel", prog_9_method_51_code, 2, none, false)
theorem m_Mod_remember : MOK y_Mod_remember x_Mod_remember 0 := ⟨g_mem 890 (by decide +kernel) (by decide +kernel), by decide +kernel, rfl, by decide +kernel, g_mem 58 (by decide +kernel) (by decide +kernel), by decide, by decide⟩
def y_Mod_copyRow : MethodName := ⟨"SwungShipsModel", "copyRow", "(II)V"⟩
def x_Mod_copyRow : CX := ("SwungShipsModel", prog_9_method_5_code, 4, none, false)
theorem m_Mod_copyRow : MOK y_Mod_copyRow x_Mod_copyRow 2 := ⟨g_mem 894 (by decide +kernel) (by decide +kernel), by decide +kernel, rfl, by decide +kernel, g_mem 58 (by decide +kernel) (by decide +kernel), by decide, by decide⟩
def y_Mod_depth : MethodName := ⟨"SwungShipsModel", "depth", "(III)I"⟩
def x_Mod_depth : CX := ("SwungShipsModel", prog_9_method_54_code, 4, some .int, false)
theorem m_Mod_depth : MOK y_Mod_depth x_Mod_depth 3 := ⟨g_mem 898 (by decide +kernel) (by decide +kernel), by decide +kernel, rfl, by decide +kernel, g_mem 58 (by decide +kernel) (by decide +kernel), by decide, by decide⟩
def y_Mod_put : MethodName := ⟨"SwungShipsModel", "put", "(II)I"⟩
def x_Mod_put : CX := ("SwungShipsModel", prog_9_method_52_code, 4, some .int, false)
theorem m_Mod_put : MOK y_Mod_put x_Mod_put 2 := ⟨g_mem 902 (by decide +kernel) (by decide +kernel), by decide +kernel, rfl, by decide +kernel, g_mem 58 (by decide +kernel) (by decide +kernel), by decide, by decide⟩
def y_Mod_tide : MethodName := ⟨"SwungShipsModel", "tide", "(I)I"⟩
def x_Mod_tide : CX := ("SwungShipsModel", prog_9_method_55_code, 2, some .int, false)
theorem m_Mod_tide : MOK y_Mod_tide x_Mod_tide 1 := ⟨g_mem 906 (by decide +kernel) (by decide +kernel), by decide +kernel, rfl, by decide +kernel, g_mem 58 (by decide +kernel) (by decide +kernel), by decide, by decide⟩
def y_Mod_winds : MethodName := ⟨"SwungShipsModel", "winds", "(I)I"⟩
def x_Mod_winds : CX := ("SwungShipsModel", prog_9_method_56_code, 2, some .int, false)
theorem m_Mod_winds : MOK y_Mod_winds x_Mod_winds 1 := ⟨g_mem 910 (by decide +kernel) (by decide +kernel), by decide +kernel, rfl, by decide +kernel, g_mem 58 (by decide +kernel) (by decide +kernel), by decide, by decide⟩
def y_Mod_arrive : MethodName := ⟨"SwungShipsModel", "arrive", "(III)I"⟩
def x_Mod_arrive : CX := ("SwungShipsModel", prog_9_method_57_code, 5, some .int, false)
theorem m_Mod_arrive : MOK y_Mod_arrive x_Mod_arrive 3 := ⟨g_mem 914 (by decide +kernel) (by decide +kernel), by decide +kernel, rfl, by decide +kernel, g_mem 58 (by decide +kernel) (by decide +kernel), by decide, by decide⟩
def y_Mod_anchor : MethodName := ⟨"SwungShipsModel", "anchor", "(III)I"⟩
def x_Mod_anchor : CX := ("SwungShipsModel", prog_9_method_61_code, 5, some .int, false)
theorem m_Mod_anchor : MOK y_Mod_anchor x_Mod_anchor 3 := ⟨g_mem 919 (by decide +kernel) (by decide +kernel), by decide +kernel, rfl, by decide +kernel, g_mem 58 (by decide +kernel) (by decide +kernel), by decide, by decide⟩
def y_Mod_come : MethodName := ⟨"SwungShipsModel", "come", "(II)I"⟩
def x_Mod_come : CX := ("SwungShipsModel", prog_9_method_60_code, 3, some .int, false)
theorem m_Mod_come : MOK y_Mod_come x_Mod_come 2 := ⟨g_mem 924 (by decide +kernel) (by decide +kernel), by decide +kernel, rfl, by decide +kernel, g_mem 58 (by decide +kernel) (by decide +kernel), by decide, by decide⟩
def y_Mod_moor : MethodName := ⟨"SwungShipsModel", "moor", "(II)V"⟩
def x_Mod_moor : CX := ("SwungShipsModel", prog_9_method_59_code, 5, none, false)
theorem m_Mod_moor : MOK y_Mod_moor x_Mod_moor 2 := ⟨g_mem 928 (by decide +kernel) (by decide +kernel), by decide +kernel, rfl, by decide +kernel, g_mem 58 (by decide +kernel) (by decide +kernel), by decide, by decide⟩
def y_Mod_unwait : MethodName := ⟨"SwungShipsModel", "unwait", "(I)V"⟩
def x_Mod_unwait : CX := ("SwungShipsModel", prog_9_method_58_code, 3, none, false)
theorem m_Mod_unwait : MOK y_Mod_unwait x_Mod_unwait 1 := ⟨g_mem 932 (by decide +kernel) (by decide +kernel), by decide +kernel, rfl, by decide +kernel, g_mem 58 (by decide +kernel) (by decide +kernel), by decide, by decide⟩
def y_Mod_fit : MethodName := ⟨"SwungShipsModel", "fit", "(I)I"⟩
def x_Mod_fit : CX := ("SwungShipsModel", prog_9_method_62_code, 3, some .int, false)
theorem m_Mod_fit : MOK y_Mod_fit x_Mod_fit 1 := ⟨g_mem 936 (by decide +kernel) (by decide +kernel), by decide +kernel, rfl, by decide +kernel, g_mem 58 (by decide +kernel) (by decide +kernel), by decide, by decide⟩
def y_Mod_fitAll : MethodName := ⟨"SwungShipsModel", "fitAll", "()I"⟩
def x_Mod_fitAll : CX := ("SwungShipsModel", prog_9_method_63_code, 3, some .int, false)
theorem m_Mod_fitAll : MOK y_Mod_fitAll x_Mod_fitAll 0 := ⟨g_mem 940 (by decide +kernel) (by decide +kernel), by decide +kernel, rfl, by decide +kernel, g_mem 58 (by decide +kernel) (by decide +kernel), by decide, by decide⟩
def y_Mod_shift : MethodName := ⟨"SwungShipsModel", "shift", "(I)I"⟩
def x_Mod_shift : CX := ("SwungShipsModel", prog_9_method_64_code, 5, some .int, false)
theorem m_Mod_shift : MOK y_Mod_shift x_Mod_shift 1 := ⟨g_mem 944 (by decide +kernel) (by decide +kernel), by decide +kernel, rfl, by decide +kernel, g_mem 58 (by decide +kernel) (by decide +kernel), by decide, by decide⟩
def y_Mod_leave : MethodName := ⟨"SwungShipsModel", "leave", "(I)I"⟩
def x_Mod_leave : CX := ("SwungShipsModel", prog_9_method_65_code, 3, some .int, false)
theorem m_Mod_leave : MOK y_Mod_leave x_Mod_leave 1 := ⟨g_mem 948 (by decide +kernel) (by decide +kernel), by decide +kernel, rfl, by decide +kernel, g_mem 58 (by decide +kernel) (by decide +kernel), by decide, by decide⟩
def y_Mod_turnAway : MethodName := ⟨"SwungShipsModel", "turnAway", "(I)I"⟩
def x_Mod_turnAway : CX := ("SwungShipsModel", prog_9_method_66_code, 2, some .int, false)
theorem m_Mod_turnAway : MOK y_Mod_turnAway x_Mod_turnAway 1 := ⟨g_mem 952 (by decide +kernel) (by decide +kernel), by decide +kernel, rfl, by decide +kernel, g_mem 58 (by decide +kernel) (by decide +kernel), by decide, by decide⟩
def y_Mod_drift : MethodName := ⟨"SwungShipsModel", "drift", "(I)I"⟩
def x_Mod_drift : CX := ("SwungShipsModel", prog_9_method_68_code, 4, some .int, false)
theorem m_Mod_drift : MOK y_Mod_drift x_Mod_drift 1 := ⟨g_mem 956 (by decide +kernel) (by decide +kernel), by decide +kernel, rfl, by decide +kernel, g_mem 58 (by decide +kernel) (by decide +kernel), by decide, by decide⟩
def y_Mod_draw : MethodName := ⟨"SwungShipsModel", "draw", "(I)I"⟩
def x_Mod_draw : CX := ("SwungShipsModel", prog_9_method_67_code, 4, some .int, false)
theorem m_Mod_draw : MOK y_Mod_draw x_Mod_draw 1 := ⟨g_mem 960 (by decide +kernel) (by decide +kernel), by decide +kernel, rfl, by decide +kernel, g_mem 58 (by decide +kernel) (by decide +kernel), by decide, by decide⟩
def y_Mod_undo : MethodName := ⟨"SwungShipsModel", "undo", "(I)I"⟩
def x_Mod_undo : CX := ("SwungShipsModel", prog_9_method_69_code, 2, some .int, false)
theorem m_Mod_undo : MOK y_Mod_undo x_Mod_undo 1 := ⟨g_mem 968 (by decide +kernel) (by decide +kernel), by decide +kernel, rfl, by decide +kernel, g_mem 58 (by decide +kernel) (by decide +kernel), by decide, by decide⟩
def y_Mod_write : MethodName := ⟨"SwungShipsModel", "write", "(II)I"⟩
def x_Mod_write : CX := ("SwungShipsModel", prog_9_method_70_code, 3, some .int, false)
theorem m_Mod_write : MOK y_Mod_write x_Mod_write 2 := ⟨g_mem 972 (by decide +kernel) (by decide +kernel), by decide +kernel, rfl, by decide +kernel, g_mem 58 (by decide +kernel) (by decide +kernel), by decide, by decide⟩
def y_Mod_tear : MethodName := ⟨"SwungShipsModel", "tear", "()I"⟩
def x_Mod_tear : CX := ("SwungShipsModel", prog_9_method_71_code, 2, some .int, false)
theorem m_Mod_tear : MOK y_Mod_tear x_Mod_tear 0 := ⟨g_mem 976 (by decide +kernel) (by decide +kernel), by decide +kernel, rfl, by decide +kernel, g_mem 58 (by decide +kernel) (by decide +kernel), by decide, by decide⟩
def y_Mod_seed : MethodName := ⟨"SwungShipsModel", "seed", "(I)I"⟩
def x_Mod_seed : CX := ("SwungShipsModel", prog_9_method_72_code, 3, some .int, false)
theorem m_Mod_seed : MOK y_Mod_seed x_Mod_seed 1 := ⟨g_mem 980 (by decide +kernel) (by decide +kernel), by decide +kernel, rfl, by decide +kernel, g_mem 58 (by decide +kernel) (by decide +kernel), by decide, by decide⟩
def y_Mod_keep : MethodName := ⟨"SwungShipsModel", "keep", "(I)I"⟩
def x_Mod_keep : CX := ("SwungShipsModel", prog_9_method_73_code, 2, some .int, false)
theorem m_Mod_keep : MOK y_Mod_keep x_Mod_keep 1 := ⟨g_mem 984 (by decide +kernel) (by decide +kernel), by decide +kernel, rfl, by decide +kernel, g_mem 58 (by decide +kernel) (by decide +kernel), by decide, by decide⟩
def y_Mod_goBack : MethodName := ⟨"SwungShipsModel", "goBack", "(I)I"⟩
def x_Mod_goBack : CX := ("SwungShipsModel", prog_9_method_74_code, 2, some .int, false)
theorem m_Mod_goBack : MOK y_Mod_goBack x_Mod_goBack 1 := ⟨g_mem 988 (by decide +kernel) (by decide +kernel), by decide +kernel, rfl, by decide +kernel, g_mem 58 (by decide +kernel) (by decide +kernel), by decide, by decide⟩
theorem c_Law_7 : Cond.classLink "SwungShipsLaw" 7 "SwungShips" ∈ gtbl := g_mem 64 (by decide +kernel) (by decide +kernel)
theorem n_Sw : Cond.instantiable "SwungShips" 6 ∈ gtbl ∧ Cond.initialized "SwungShips" ∈ gtbl := ⟨g_mem 65 (by decide +kernel) (by decide +kernel), g_mem 52 (by decide +kernel) (by decide +kernel)⟩
theorem l_Law_9 : LkI "SwungShipsLaw" 9 y_Sw_init := ⟨g_mem 66 (by decide +kernel) (by decide +kernel), g_mem 67 (by decide +kernel) (by decide +kernel), rfl⟩
theorem o_Sw_3 : Cond.methodLink "SwungShips" 3 objectInit ∈ gtbl := g_mem 69 (by decide +kernel) (by decide +kernel)
theorem c_Sw_9 : Cond.classLink "SwungShips" 9 "SwungShips$Harbour" ∈ gtbl := g_mem 72 (by decide +kernel) (by decide +kernel)
theorem n_Harb : Cond.instantiable "SwungShips$Harbour" 12 ∈ gtbl ∧ Cond.initialized "SwungShips$Harbour" ∈ gtbl := ⟨g_mem 73 (by decide +kernel) (by decide +kernel), g_mem 53 (by decide +kernel) (by decide +kernel)⟩
theorem l_Sw_11 : LkI "SwungShips" 11 y_Harb_init := ⟨g_mem 74 (by decide +kernel) (by decide +kernel), g_mem 75 (by decide +kernel) (by decide +kernel), rfl⟩
theorem o_Harb_3 : Cond.methodLink "SwungShips$Harbour" 3 objectInit ∈ gtbl := g_mem 77 (by decide +kernel) (by decide +kernel)
theorem l_Harb_37 : LkV "SwungShips$Harbour" 37 y_Harb_layOut := ⟨g_mem 78 (by decide +kernel) (by decide +kernel), g_mem 79 (by decide +kernel) (by decide +kernel), g_mem 80 (by decide +kernel) (by decide +kernel)⟩
theorem f_Harb_41 : FL "SwungShips$Harbour" 41 1 0 := ⟨_, _, _, _, ck_Harb, by decide, g_mem 82 (by decide +kernel) (by decide +kernel)⟩
theorem f_Sw_48 : FL "SwungShips" 48 1 0 := ⟨_, _, _, _, ck_Harb, by decide, g_mem 83 (by decide +kernel) (by decide +kernel)⟩
theorem f_Sear_149 : FL "SwungShips$Search" 149 1 0 := ⟨_, _, _, _, ck_Harb, by decide, g_mem 84 (by decide +kernel) (by decide +kernel)⟩
theorem f_Harb_44 : FL "SwungShips$Harbour" 44 1 1 := ⟨_, _, _, _, ck_Harb, by decide, g_mem 85 (by decide +kernel) (by decide +kernel)⟩
theorem f_Sw_51 : FL "SwungShips" 51 1 1 := ⟨_, _, _, _, ck_Harb, by decide, g_mem 86 (by decide +kernel) (by decide +kernel)⟩
theorem f_Sear_146 : FL "SwungShips$Search" 146 1 1 := ⟨_, _, _, _, ck_Harb, by decide, g_mem 87 (by decide +kernel) (by decide +kernel)⟩
theorem f_Harb_30 : FL "SwungShips$Harbour" 30 1 2 := ⟨_, _, _, _, ck_Harb, by decide, g_mem 88 (by decide +kernel) (by decide +kernel)⟩
theorem f_Sw_54 : FL "SwungShips" 54 1 2 := ⟨_, _, _, _, ck_Harb, by decide, g_mem 89 (by decide +kernel) (by decide +kernel)⟩
theorem f_Harb_34 : FL "SwungShips$Harbour" 34 1 3 := ⟨_, _, _, _, ck_Harb, by decide, g_mem 90 (by decide +kernel) (by decide +kernel)⟩
theorem f_Sw_57 : FL "SwungShips" 57 1 3 := ⟨_, _, _, _, ck_Harb, by decide, g_mem 91 (by decide +kernel) (by decide +kernel)⟩
theorem f_Swing_39 : FL "SwungShips$Swing" 39 1 3 := ⟨_, _, _, _, ck_Harb, by decide, g_mem 92 (by decide +kernel) (by decide +kernel)⟩
theorem f_Sear_122 : FL "SwungShips$Search" 122 1 3 := ⟨_, _, _, _, ck_Harb, by decide, g_mem 93 (by decide +kernel) (by decide +kernel)⟩
theorem f_Harb_47 : FL "SwungShips$Harbour" 47 1 4 := ⟨_, _, _, _, ck_Harb, by decide, g_mem 94 (by decide +kernel) (by decide +kernel)⟩
theorem f_Sw_60 : FL "SwungShips" 60 1 4 := ⟨_, _, _, _, ck_Harb, by decide, g_mem 95 (by decide +kernel) (by decide +kernel)⟩
theorem f_Sear_60 : FL "SwungShips$Search" 60 1 4 := ⟨_, _, _, _, ck_Harb, by decide, g_mem 96 (by decide +kernel) (by decide +kernel)⟩
theorem f_Swing_58 : FL "SwungShips$Swing" 58 1 4 := ⟨_, _, _, _, ck_Harb, by decide, g_mem 97 (by decide +kernel) (by decide +kernel)⟩
theorem f_Harb_50 : FL "SwungShips$Harbour" 50 1 5 := ⟨_, _, _, _, ck_Harb, by decide, g_mem 98 (by decide +kernel) (by decide +kernel)⟩
theorem f_Sw_63 : FL "SwungShips" 63 1 5 := ⟨_, _, _, _, ck_Harb, by decide, g_mem 99 (by decide +kernel) (by decide +kernel)⟩
theorem f_Sear_36 : FL "SwungShips$Search" 36 1 5 := ⟨_, _, _, _, ck_Harb, by decide, g_mem 100 (by decide +kernel) (by decide +kernel)⟩
theorem f_Harb_9 : FL "SwungShips$Harbour" 9 1 6 := ⟨_, _, _, _, ck_Harb, by decide, g_mem 101 (by decide +kernel) (by decide +kernel)⟩
theorem f_Harb_15 : FL "SwungShips$Harbour" 15 1 7 := ⟨_, _, _, _, ck_Harb, by decide, g_mem 102 (by decide +kernel) (by decide +kernel)⟩
theorem f_Sw_128 : FL "SwungShips" 128 1 7 := ⟨_, _, _, _, ck_Harb, by decide, g_mem 103 (by decide +kernel) (by decide +kernel)⟩
theorem f_Swing_84 : FL "SwungShips$Swing" 84 1 7 := ⟨_, _, _, _, ck_Harb, by decide, g_mem 104 (by decide +kernel) (by decide +kernel)⟩
theorem f_Sear_116 : FL "SwungShips$Search" 116 1 7 := ⟨_, _, _, _, ck_Harb, by decide, g_mem 105 (by decide +kernel) (by decide +kernel)⟩
theorem f_Harb_18 : FL "SwungShips$Harbour" 18 1 8 := ⟨_, _, _, _, ck_Harb, by decide, g_mem 106 (by decide +kernel) (by decide +kernel)⟩
theorem f_Swing_15 : FL "SwungShips$Swing" 15 1 8 := ⟨_, _, _, _, ck_Harb, by decide, g_mem 107 (by decide +kernel) (by decide +kernel)⟩
theorem f_Sw_132 : FL "SwungShips" 132 1 8 := ⟨_, _, _, _, ck_Harb, by decide, g_mem 108 (by decide +kernel) (by decide +kernel)⟩
theorem f_Sear_130 : FL "SwungShips$Search" 130 1 8 := ⟨_, _, _, _, ck_Harb, by decide, g_mem 109 (by decide +kernel) (by decide +kernel)⟩
theorem f_Harb_21 : FL "SwungShips$Harbour" 21 1 9 := ⟨_, _, _, _, ck_Harb, by decide, g_mem 110 (by decide +kernel) (by decide +kernel)⟩
theorem f_Sw_135 : FL "SwungShips" 135 1 9 := ⟨_, _, _, _, ck_Harb, by decide, g_mem 111 (by decide +kernel) (by decide +kernel)⟩
theorem f_Swing_36 : FL "SwungShips$Swing" 36 1 9 := ⟨_, _, _, _, ck_Harb, by decide, g_mem 112 (by decide +kernel) (by decide +kernel)⟩
theorem f_Sear_139 : FL "SwungShips$Search" 139 1 9 := ⟨_, _, _, _, ck_Harb, by decide, g_mem 113 (by decide +kernel) (by decide +kernel)⟩
theorem f_Harb_24 : FL "SwungShips$Harbour" 24 1 10 := ⟨_, _, _, _, ck_Harb, by decide, g_mem 114 (by decide +kernel) (by decide +kernel)⟩
theorem f_Swing_9 : FL "SwungShips$Swing" 9 1 10 := ⟨_, _, _, _, ck_Harb, by decide, g_mem 115 (by decide +kernel) (by decide +kernel)⟩
theorem f_Book_28 : FL "SwungShips$Book" 28 1 10 := ⟨_, _, _, _, ck_Harb, by decide, g_mem 116 (by decide +kernel) (by decide +kernel)⟩
theorem f_Sw_138 : FL "SwungShips" 138 1 10 := ⟨_, _, _, _, ck_Harb, by decide, g_mem 117 (by decide +kernel) (by decide +kernel)⟩
theorem f_Sear_87 : FL "SwungShips$Search" 87 1 10 := ⟨_, _, _, _, ck_Harb, by decide, g_mem 118 (by decide +kernel) (by decide +kernel)⟩
theorem f_Harb_27 : FL "SwungShips$Harbour" 27 1 11 := ⟨_, _, _, _, ck_Harb, by decide, g_mem 119 (by decide +kernel) (by decide +kernel)⟩
theorem f_Book_31 : FL "SwungShips$Book" 31 1 11 := ⟨_, _, _, _, ck_Harb, by decide, g_mem 120 (by decide +kernel) (by decide +kernel)⟩
theorem f_Swing_21 : FL "SwungShips$Swing" 21 1 11 := ⟨_, _, _, _, ck_Harb, by decide, g_mem 121 (by decide +kernel) (by decide +kernel)⟩
theorem f_Sw_141 : FL "SwungShips" 141 1 11 := ⟨_, _, _, _, ck_Harb, by decide, g_mem 122 (by decide +kernel) (by decide +kernel)⟩
theorem f_Sear_90 : FL "SwungShips$Search" 90 1 11 := ⟨_, _, _, _, ck_Harb, by decide, g_mem 123 (by decide +kernel) (by decide +kernel)⟩
theorem a_int : Cond.arrayClass .int ∈ gtbl := g_mem 149 (by decide +kernel) (by decide +kernel)
theorem c_Sw_16 : Cond.classLink "SwungShips" 16 "SwungShips$History" ∈ gtbl := g_mem 150 (by decide +kernel) (by decide +kernel)
theorem n_Hist : Cond.instantiable "SwungShips$History" 3 ∈ gtbl ∧ Cond.initialized "SwungShips$History" ∈ gtbl := ⟨g_mem 151 (by decide +kernel) (by decide +kernel), g_mem 54 (by decide +kernel) (by decide +kernel)⟩
theorem l_Sw_18 : LkI "SwungShips" 18 y_Hist_init := ⟨g_mem 152 (by decide +kernel) (by decide +kernel), g_mem 153 (by decide +kernel) (by decide +kernel), rfl⟩
theorem o_Hist_3 : Cond.methodLink "SwungShips$History" 3 objectInit ∈ gtbl := g_mem 155 (by decide +kernel) (by decide +kernel)
theorem c_Hist_9 : Cond.classLink "SwungShips$History" 9 "SwungShips$Harbour" ∈ gtbl := g_mem 156 (by decide +kernel) (by decide +kernel)
theorem l_Hist_17 : LkI "SwungShips$History" 17 y_Harb_init := ⟨g_mem 158 (by decide +kernel) (by decide +kernel), g_mem 75 (by decide +kernel) (by decide +kernel), rfl⟩
theorem f_Hist_11 : FL "SwungShips$History" 11 2 0 := ⟨_, _, _, _, ck_Hist, by decide, g_mem 159 (by decide +kernel) (by decide +kernel)⟩
theorem f_Hist_18 : FL "SwungShips$History" 18 2 1 := ⟨_, _, _, _, ck_Hist, by decide, g_mem 160 (by decide +kernel) (by decide +kernel)⟩
theorem f_Hist_26 : FL "SwungShips$History" 26 2 2 := ⟨_, _, _, _, ck_Hist, by decide, g_mem 161 (by decide +kernel) (by decide +kernel)⟩
theorem f_Sw_99 : FL "SwungShips" 99 2 2 := ⟨_, _, _, _, ck_Hist, by decide, g_mem 162 (by decide +kernel) (by decide +kernel)⟩
theorem c_Sw_23 : Cond.classLink "SwungShips" 23 "SwungShips$Search" ∈ gtbl := g_mem 170 (by decide +kernel) (by decide +kernel)
theorem n_Sear : Cond.instantiable "SwungShips$Search" 7 ∈ gtbl ∧ Cond.initialized "SwungShips$Search" ∈ gtbl := ⟨g_mem 171 (by decide +kernel) (by decide +kernel), g_mem 55 (by decide +kernel) (by decide +kernel)⟩
theorem l_Sw_25 : LkI "SwungShips" 25 y_Sear_init := ⟨g_mem 172 (by decide +kernel) (by decide +kernel), g_mem 173 (by decide +kernel) (by decide +kernel), rfl⟩
theorem o_Sear_3 : Cond.methodLink "SwungShips$Search" 3 objectInit ∈ gtbl := g_mem 175 (by decide +kernel) (by decide +kernel)
theorem f_Sear_11 : FL "SwungShips$Search" 11 4 0 := ⟨_, _, _, _, ck_Sear, by decide, g_mem 176 (by decide +kernel) (by decide +kernel)⟩
theorem f_Sw_224 : FL "SwungShips" 224 4 0 := ⟨_, _, _, _, ck_Sear, by decide, g_mem 177 (by decide +kernel) (by decide +kernel)⟩
theorem f_Sear_15 : FL "SwungShips$Search" 15 4 1 := ⟨_, _, _, _, ck_Sear, by decide, g_mem 178 (by decide +kernel) (by decide +kernel)⟩
theorem f_Sw_175 : FL "SwungShips" 175 4 1 := ⟨_, _, _, _, ck_Sear, by decide, g_mem 179 (by decide +kernel) (by decide +kernel)⟩
theorem f_Sear_50 : FL "SwungShips$Search" 50 4 2 := ⟨_, _, _, _, ck_Sear, by decide, g_mem 180 (by decide +kernel) (by decide +kernel)⟩
theorem f_Sw_221 : FL "SwungShips" 221 4 2 := ⟨_, _, _, _, ck_Sear, by decide, g_mem 181 (by decide +kernel) (by decide +kernel)⟩
theorem f_Sear_53 : FL "SwungShips$Search" 53 4 3 := ⟨_, _, _, _, ck_Sear, by decide, g_mem 182 (by decide +kernel) (by decide +kernel)⟩
theorem f_Sw_182 : FL "SwungShips" 182 4 3 := ⟨_, _, _, _, ck_Sear, by decide, g_mem 183 (by decide +kernel) (by decide +kernel)⟩
theorem f_Sear_18 : FL "SwungShips$Search" 18 4 4 := ⟨_, _, _, _, ck_Sear, by decide, g_mem 184 (by decide +kernel) (by decide +kernel)⟩
theorem f_Sear_22 : FL "SwungShips$Search" 22 4 5 := ⟨_, _, _, _, ck_Sear, by decide, g_mem 185 (by decide +kernel) (by decide +kernel)⟩
theorem f_Sear_25 : FL "SwungShips$Search" 25 4 6 := ⟨_, _, _, _, ck_Sear, by decide, g_mem 186 (by decide +kernel) (by decide +kernel)⟩
theorem a_long : Cond.arrayClass .long ∈ gtbl := g_mem 202 (by decide +kernel) (by decide +kernel)
theorem c_Sw_30 : Cond.classLink "SwungShips" 30 "SwungShips$Book" ∈ gtbl := g_mem 203 (by decide +kernel) (by decide +kernel)
theorem n_Book : Cond.instantiable "SwungShips$Book" 3 ∈ gtbl ∧ Cond.initialized "SwungShips$Book" ∈ gtbl := ⟨g_mem 204 (by decide +kernel) (by decide +kernel), g_mem 56 (by decide +kernel) (by decide +kernel)⟩
theorem l_Sw_32 : LkI "SwungShips" 32 y_Book_init := ⟨g_mem 205 (by decide +kernel) (by decide +kernel), g_mem 206 (by decide +kernel) (by decide +kernel), rfl⟩
theorem o_Book_3 : Cond.methodLink "SwungShips$Book" 3 objectInit ∈ gtbl := g_mem 208 (by decide +kernel) (by decide +kernel)
theorem f_Book_9 : FL "SwungShips$Book" 9 0 0 := ⟨_, _, _, _, ck_Book, by decide, g_mem 209 (by decide +kernel) (by decide +kernel)⟩
theorem f_Book_15 : FL "SwungShips$Book" 15 0 1 := ⟨_, _, _, _, ck_Book, by decide, g_mem 210 (by decide +kernel) (by decide +kernel)⟩
theorem f_Book_18 : FL "SwungShips$Book" 18 0 2 := ⟨_, _, _, _, ck_Book, by decide, g_mem 211 (by decide +kernel) (by decide +kernel)⟩
theorem f_Sw_93 : FL "SwungShips" 93 0 2 := ⟨_, _, _, _, ck_Book, by decide, g_mem 212 (by decide +kernel) (by decide +kernel)⟩
theorem c_Sw_37 : Cond.classLink "SwungShips" 37 "SwungShips$Image" ∈ gtbl := g_mem 220 (by decide +kernel) (by decide +kernel)
theorem n_Imag : Cond.instantiable "SwungShips$Image" 3 ∈ gtbl ∧ Cond.initialized "SwungShips$Image" ∈ gtbl := ⟨g_mem 222 (by decide +kernel) (by decide +kernel), g_mem 57 (by decide +kernel) (by decide +kernel)⟩
theorem l_Sw_43 : LkI "SwungShips" 43 y_Imag_init := ⟨g_mem 223 (by decide +kernel) (by decide +kernel), g_mem 224 (by decide +kernel) (by decide +kernel), rfl⟩
theorem o_Imag_1 : Cond.methodLink "SwungShips$Image" 1 objectInit ∈ gtbl := g_mem 226 (by decide +kernel) (by decide +kernel)
theorem c_Imag_7 : Cond.classLink "SwungShips$Image" 7 "SwungShips$Harbour" ∈ gtbl := g_mem 227 (by decide +kernel) (by decide +kernel)
theorem l_Imag_9 : LkI "SwungShips$Image" 9 y_Harb_init := ⟨g_mem 228 (by decide +kernel) (by decide +kernel), g_mem 75 (by decide +kernel) (by decide +kernel), rfl⟩
theorem f_Imag_10 : FL "SwungShips$Image" 10 3 0 := ⟨_, _, _, _, ck_Imag, by decide, g_mem 229 (by decide +kernel) (by decide +kernel)⟩
theorem f_Sw_258 : FL "SwungShips" 258 3 0 := ⟨_, _, _, _, ck_Imag, by decide, g_mem 230 (by decide +kernel) (by decide +kernel)⟩
theorem f_Imag_20 : FL "SwungShips$Image" 20 3 1 := ⟨_, _, _, _, ck_Imag, by decide, g_mem 231 (by decide +kernel) (by decide +kernel)⟩
theorem f_Sw_264 : FL "SwungShips" 264 3 1 := ⟨_, _, _, _, ck_Imag, by decide, g_mem 232 (by decide +kernel) (by decide +kernel)⟩
theorem f_Imag_24 : FL "SwungShips$Image" 24 3 2 := ⟨_, _, _, _, ck_Imag, by decide, g_mem 233 (by decide +kernel) (by decide +kernel)⟩
theorem f_Sw_254 : FL "SwungShips" 254 3 2 := ⟨_, _, _, _, ck_Imag, by decide, g_mem 234 (by decide +kernel) (by decide +kernel)⟩
theorem f_Sw_12 : FL "SwungShips" 12 5 0 := ⟨_, _, _, _, ck_Sw, by decide, g_mem 242 (by decide +kernel) (by decide +kernel)⟩
theorem f_Sw_19 : FL "SwungShips" 19 5 1 := ⟨_, _, _, _, ck_Sw, by decide, g_mem 243 (by decide +kernel) (by decide +kernel)⟩
theorem f_Sw_26 : FL "SwungShips" 26 5 2 := ⟨_, _, _, _, ck_Sw, by decide, g_mem 244 (by decide +kernel) (by decide +kernel)⟩
theorem f_Sw_33 : FL "SwungShips" 33 5 3 := ⟨_, _, _, _, ck_Sw, by decide, g_mem 245 (by decide +kernel) (by decide +kernel)⟩
theorem f_Sw_39 : FL "SwungShips" 39 5 4 := ⟨_, _, _, _, ck_Sw, by decide, g_mem 246 (by decide +kernel) (by decide +kernel)⟩
theorem f_Sw_44 : FL "SwungShips" 44 5 5 := ⟨_, _, _, _, ck_Sw, by decide, g_mem 247 (by decide +kernel) (by decide +kernel)⟩
theorem l_Law_13 : LkV "SwungShipsLaw" 13 y_Sw_told := ⟨g_mem 261 (by decide +kernel) (by decide +kernel), g_mem 262 (by decide +kernel) (by decide +kernel), g_mem 263 (by decide +kernel) (by decide +kernel)⟩
theorem l_Sw_66 : LkS "SwungShips" 66 y_Swing_inDanger := ⟨g_mem 265 (by decide +kernel) (by decide +kernel), g_mem 266 (by decide +kernel) (by decide +kernel)⟩
theorem l_Swing_103 : LkS "SwungShips$Swing" 103 y_Swing_liesWell := ⟨g_mem 268 (by decide +kernel) (by decide +kernel), g_mem 269 (by decide +kernel) (by decide +kernel)⟩
theorem l_Swing_81 : LkS "SwungShips$Swing" 81 y_Swing_leastWater := ⟨g_mem 271 (by decide +kernel) (by decide +kernel), g_mem 272 (by decide +kernel) (by decide +kernel)⟩
theorem k_Swing_69 : Cond.constant "SwungShips$Swing" 69 (2147483647) ∈ gtbl := g_mem 274 (by decide +kernel) (by decide +kernel)
theorem l_Swing_43 : LkS "SwungShips$Swing" 43 y_Swing_blows := ⟨g_mem 275 (by decide +kernel) (by decide +kernel), g_mem 276 (by decide +kernel) (by decide +kernel)⟩
theorem l_Swing_70 : LkS "SwungShips$Swing" 70 y_Swing_leastWaterBy := ⟨g_mem 278 (by decide +kernel) (by decide +kernel), g_mem 279 (by decide +kernel) (by decide +kernel)⟩
theorem l_Swing_27 : LkS "SwungShips$Swing" 27 y_Swing_firstX := ⟨g_mem 281 (by decide +kernel) (by decide +kernel), g_mem 282 (by decide +kernel) (by decide +kernel)⟩
theorem l_Swing_33 : LkS "SwungShips$Swing" 33 y_Swing_firstY := ⟨g_mem 286 (by decide +kernel) (by decide +kernel), g_mem 287 (by decide +kernel) (by decide +kernel)⟩
theorem l_Swing_78 : LkV "SwungShips$Swing" 78 y_Harb_water := ⟨g_mem 291 (by decide +kernel) (by decide +kernel), g_mem 292 (by decide +kernel) (by decide +kernel), g_mem 293 (by decide +kernel) (by decide +kernel)⟩
theorem l_Harb_66 : LkV "SwungShips$Harbour" 66 y_Harb_hasCell := ⟨g_mem 295 (by decide +kernel) (by decide +kernel), g_mem 296 (by decide +kernel) (by decide +kernel), g_mem 297 (by decide +kernel) (by decide +kernel)⟩
theorem l_Harb_70 : LkV "SwungShips$Harbour" 70 y_Harb_cellAt := ⟨g_mem 299 (by decide +kernel) (by decide +kernel), g_mem 300 (by decide +kernel) (by decide +kernel), g_mem 301 (by decide +kernel) (by decide +kernel)⟩
theorem l_Harb_74 : LkS "SwungShips$Harbour" 74 y_Math_max := ⟨g_mem 303 (by decide +kernel) (by decide +kernel), g_mem 304 (by decide +kernel) (by decide +kernel)⟩
theorem l_Swing_73 : LkS "SwungShips$Swing" 73 y_Math_min := ⟨g_mem 306 (by decide +kernel) (by decide +kernel), g_mem 307 (by decide +kernel) (by decide +kernel)⟩
theorem l_Swing_94 : LkS "SwungShips$Swing" 94 y_Swing_clashesOf := ⟨g_mem 309 (by decide +kernel) (by decide +kernel), g_mem 310 (by decide +kernel) (by decide +kernel)⟩
theorem l_Swing_91 : LkS "SwungShips$Swing" 91 y_Swing_clash := ⟨g_mem 312 (by decide +kernel) (by decide +kernel), g_mem 313 (by decide +kernel) (by decide +kernel)⟩
theorem l_Swing_87 : LkS "SwungShips$Swing" 87 y_Swing_clashBy := ⟨g_mem 315 (by decide +kernel) (by decide +kernel), g_mem 316 (by decide +kernel) (by decide +kernel)⟩
theorem l_Sw_72 : LkS "SwungShips" 72 y_Swing_pairsThatClash := ⟨g_mem 318 (by decide +kernel) (by decide +kernel), g_mem 319 (by decide +kernel) (by decide +kernel)⟩
theorem l_Swing_97 : LkS "SwungShips$Swing" 97 y_Integer_bitCount := ⟨g_mem 321 (by decide +kernel) (by decide +kernel), g_mem 322 (by decide +kernel) (by decide +kernel)⟩
theorem k_Integer_265 : Cond.constant "java/lang/Integer" 265 (1431655765) ∈ gtbl := g_mem 324 (by decide +kernel) (by decide +kernel)
theorem k_Integer_266 : Cond.constant "java/lang/Integer" 266 (858993459) ∈ gtbl := g_mem 325 (by decide +kernel) (by decide +kernel)
theorem k_Integer_267 : Cond.constant "java/lang/Integer" 267 (252645135) ∈ gtbl := g_mem 326 (by decide +kernel) (by decide +kernel)
theorem l_Sw_76 : LkV "SwungShips" 76 y_Sear_settlesAll := ⟨g_mem 327 (by decide +kernel) (by decide +kernel), g_mem 328 (by decide +kernel) (by decide +kernel), g_mem 329 (by decide +kernel) (by decide +kernel)⟩
theorem l_Sear_28 : LkV "SwungShips$Search" 28 y_Sear_look := ⟨g_mem 331 (by decide +kernel) (by decide +kernel), g_mem 333 (by decide +kernel) (by decide +kernel), g_mem 0 (by decide +kernel) (by decide +kernel)⟩
theorem l_Sear_107 : LkS "SwungShips$Search" 107 y_Sear_goodSpots := ⟨g_mem 335 (by decide +kernel) (by decide +kernel), g_mem 336 (by decide +kernel) (by decide +kernel)⟩
theorem l_Sear_119 : LkS "SwungShips$Search" 119 y_Sear_deepSpots := ⟨g_mem 338 (by decide +kernel) (by decide +kernel), g_mem 339 (by decide +kernel) (by decide +kernel)⟩
theorem l_Sear_152 : LkV "SwungShips$Search" 152 y_Harb_water := ⟨g_mem 341 (by decide +kernel) (by decide +kernel), g_mem 292 (by decide +kernel) (by decide +kernel), g_mem 293 (by decide +kernel) (by decide +kernel)⟩
theorem l_Sear_125 : LkS "SwungShips$Search" 125 y_Swing_blows := ⟨g_mem 345 (by decide +kernel) (by decide +kernel), g_mem 276 (by decide +kernel) (by decide +kernel)⟩
theorem l_Sear_142 : LkS "SwungShips$Search" 142 y_Sear_squareIn := ⟨g_mem 348 (by decide +kernel) (by decide +kernel), g_mem 349 (by decide +kernel) (by decide +kernel)⟩
theorem k_Sear_85 : Cond.constantLong "SwungShips$Search" 85 (-1) ∈ gtbl := g_mem 351 (by decide +kernel) (by decide +kernel)
theorem l_Sear_103 : LkS "SwungShips$Search" 103 y_Sear_seenFrom := ⟨g_mem 352 (by decide +kernel) (by decide +kernel), g_mem 353 (by decide +kernel) (by decide +kernel)⟩
theorem k_Sear_158 : Cond.constantLong "SwungShips$Search" 158 (255) ∈ gtbl := g_mem 355 (by decide +kernel) (by decide +kernel)
theorem k_Sear_160 : Cond.constantLong "SwungShips$Search" 160 (72340172838076673) ∈ gtbl := g_mem 356 (by decide +kernel) (by decide +kernel)
theorem l_Sear_110 : LkV "SwungShips$Search" 110 y_Harb_hasSlot := ⟨g_mem 357 (by decide +kernel) (by decide +kernel), g_mem 358 (by decide +kernel) (by decide +kernel), g_mem 359 (by decide +kernel) (by decide +kernel)⟩
theorem l_Harb_59 : LkV "SwungShips$Harbour" 59 y_Harb_hasAnchored := ⟨g_mem 361 (by decide +kernel) (by decide +kernel), g_mem 362 (by decide +kernel) (by decide +kernel), g_mem 363 (by decide +kernel) (by decide +kernel)⟩
theorem l_Harb_63 : LkV "SwungShips$Harbour" 63 y_Harb_hasWaiting := ⟨g_mem 365 (by decide +kernel) (by decide +kernel), g_mem 366 (by decide +kernel) (by decide +kernel), g_mem 367 (by decide +kernel) (by decide +kernel)⟩
theorem l_Sear_113 : LkS "SwungShips$Search" 113 y_Sear_badSpots := ⟨g_mem 369 (by decide +kernel) (by decide +kernel), g_mem 370 (by decide +kernel) (by decide +kernel)⟩
theorem l_Sear_155 : LkS "SwungShips$Search" 155 y_Sear_square := ⟨g_mem 372 (by decide +kernel) (by decide +kernel), g_mem 373 (by decide +kernel) (by decide +kernel)⟩
theorem l_Sear_56 : LkV "SwungShips$Search" 56 y_Sear_settlesRow := ⟨g_mem 375 (by decide +kernel) (by decide +kernel), g_mem 377 (by decide +kernel) (by decide +kernel), g_mem 1 (by decide +kernel) (by decide +kernel)⟩
theorem l_Sear_32 : LkV "SwungShips$Search" 32 y_Sear_leftFor := ⟨g_mem 379 (by decide +kernel) (by decide +kernel), g_mem 381 (by decide +kernel) (by decide +kernel), g_mem 2 (by decide +kernel) (by decide +kernel)⟩
theorem l_Sear_81 : LkV "SwungShips$Search" 81 y_Sear_around := ⟨g_mem 383 (by decide +kernel) (by decide +kernel), g_mem 385 (by decide +kernel) (by decide +kernel), g_mem 3 (by decide +kernel) (by decide +kernel)⟩
theorem l_Sear_73 : LkV "SwungShips$Search" 73 y_Sear_settles := ⟨g_mem 393 (by decide +kernel) (by decide +kernel), g_mem 395 (by decide +kernel) (by decide +kernel), g_mem 4 (by decide +kernel) (by decide +kernel)⟩
theorem l_Sear_77 : LkV "SwungShips$Search" 77 y_Sear_settlesAt := ⟨g_mem 400 (by decide +kernel) (by decide +kernel), g_mem 402 (by decide +kernel) (by decide +kernel), g_mem 5 (by decide +kernel) (by decide +kernel)⟩
theorem l_Sw_80 : LkS "SwungShips" 80 y_Swing_threats := ⟨g_mem 404 (by decide +kernel) (by decide +kernel), g_mem 405 (by decide +kernel) (by decide +kernel)⟩
theorem l_Swing_107 : LkS "SwungShips$Swing" 107 y_Swing_inDanger := ⟨g_mem 407 (by decide +kernel) (by decide +kernel), g_mem 266 (by decide +kernel) (by decide +kernel)⟩
theorem l_Sw_83 : LkS "SwungShips" 83 y_Swing_sweptByAll := ⟨g_mem 408 (by decide +kernel) (by decide +kernel), g_mem 409 (by decide +kernel) (by decide +kernel)⟩
theorem l_Swing_61 : LkS "SwungShips$Swing" 61 y_Swing_sweptBy := ⟨g_mem 411 (by decide +kernel) (by decide +kernel), g_mem 412 (by decide +kernel) (by decide +kernel)⟩
theorem l_Swing_47 : LkS "SwungShips$Swing" 47 y_Swing_lainOn := ⟨g_mem 414 (by decide +kernel) (by decide +kernel), g_mem 415 (by decide +kernel) (by decide +kernel)⟩
theorem l_Swing_51 : LkV "SwungShips$Swing" 51 y_Harb_hasCell := ⟨g_mem 417 (by decide +kernel) (by decide +kernel), g_mem 296 (by decide +kernel) (by decide +kernel), g_mem 297 (by decide +kernel) (by decide +kernel)⟩
theorem l_Sw_87 : LkS "SwungShips" 87 y_Long_bitCount := ⟨g_mem 419 (by decide +kernel) (by decide +kernel), g_mem 420 (by decide +kernel) (by decide +kernel)⟩
theorem k_Long_314 : Cond.constantLong "java/lang/Long" 314 (6148914691236517205) ∈ gtbl := g_mem 422 (by decide +kernel) (by decide +kernel)
theorem k_Long_316 : Cond.constantLong "java/lang/Long" 316 (3689348814741910323) ∈ gtbl := g_mem 423 (by decide +kernel) (by decide +kernel)
theorem k_Long_318 : Cond.constantLong "java/lang/Long" 318 (1085102592571150095) ∈ gtbl := g_mem 424 (by decide +kernel) (by decide +kernel)
theorem l_Sw_96 : LkV "SwungShips" 96 y_Book_firstWrong := ⟨g_mem 425 (by decide +kernel) (by decide +kernel), g_mem 426 (by decide +kernel) (by decide +kernel), g_mem 427 (by decide +kernel) (by decide +kernel)⟩
theorem l_Book_22 : LkV "SwungShips$Book" 22 y_Harb_hasAnchored := ⟨g_mem 429 (by decide +kernel) (by decide +kernel), g_mem 362 (by decide +kernel) (by decide +kernel), g_mem 363 (by decide +kernel) (by decide +kernel)⟩
theorem l_Book_34 : LkV "SwungShips$Book" 34 y_Harb_cellAt := ⟨g_mem 430 (by decide +kernel) (by decide +kernel), g_mem 300 (by decide +kernel) (by decide +kernel), g_mem 301 (by decide +kernel) (by decide +kernel)⟩
theorem k_Sw_102 : Cond.constant "SwungShips" 102 (-1000000002) ∈ gtbl := g_mem 431 (by decide +kernel) (by decide +kernel)
theorem l_Law_18 : LkV "SwungShipsLaw" 18 y_Sw_cell := ⟨g_mem 432 (by decide +kernel) (by decide +kernel), g_mem 433 (by decide +kernel) (by decide +kernel), g_mem 434 (by decide +kernel) (by decide +kernel)⟩
theorem l_Sw_103 : LkV "SwungShips" 103 y_Harb_hasCell := ⟨g_mem 436 (by decide +kernel) (by decide +kernel), g_mem 296 (by decide +kernel) (by decide +kernel), g_mem 297 (by decide +kernel) (by decide +kernel)⟩
theorem k_Sw_107 : Cond.constant "SwungShips" 107 (-1000000001) ∈ gtbl := g_mem 437 (by decide +kernel) (by decide +kernel)
theorem l_Sw_108 : LkV "SwungShips" 108 y_Harb_depthAt := ⟨g_mem 438 (by decide +kernel) (by decide +kernel), g_mem 439 (by decide +kernel) (by decide +kernel), g_mem 440 (by decide +kernel) (by decide +kernel)⟩
theorem l_Sw_112 : LkV "SwungShips" 112 y_Harb_water := ⟨g_mem 442 (by decide +kernel) (by decide +kernel), g_mem 292 (by decide +kernel) (by decide +kernel), g_mem 293 (by decide +kernel) (by decide +kernel)⟩
theorem l_Sw_115 : LkS "SwungShips" 115 y_Sw_spotAt := ⟨g_mem 443 (by decide +kernel) (by decide +kernel), g_mem 343 (by decide +kernel) (by decide +kernel)⟩
theorem l_Sw_118 : LkS "SwungShips" 118 y_Swing_sweepersOf := ⟨g_mem 444 (by decide +kernel) (by decide +kernel), g_mem 445 (by decide +kernel) (by decide +kernel)⟩
theorem l_Sw_121 : LkV "SwungShips" 121 y_Sear_waitersFor := ⟨g_mem 448 (by decide +kernel) (by decide +kernel), g_mem 449 (by decide +kernel) (by decide +kernel), g_mem 450 (by decide +kernel) (by decide +kernel)⟩
theorem l_Sear_42 : LkV "SwungShips$Search" 42 y_Sear_placesFor := ⟨g_mem 452 (by decide +kernel) (by decide +kernel), g_mem 453 (by decide +kernel) (by decide +kernel), g_mem 454 (by decide +kernel) (by decide +kernel)⟩
theorem l_Law_23 : LkV "SwungShipsLaw" 23 y_Sw_ship := ⟨g_mem 456 (by decide +kernel) (by decide +kernel), g_mem 457 (by decide +kernel) (by decide +kernel), g_mem 458 (by decide +kernel) (by decide +kernel)⟩
theorem l_Sw_124 : LkV "SwungShips" 124 y_Harb_hasAnchored := ⟨g_mem 460 (by decide +kernel) (by decide +kernel), g_mem 362 (by decide +kernel) (by decide +kernel), g_mem 363 (by decide +kernel) (by decide +kernel)⟩
theorem l_Sw_144 : LkV "SwungShips" 144 y_Harb_cellAt := ⟨g_mem 461 (by decide +kernel) (by decide +kernel), g_mem 300 (by decide +kernel) (by decide +kernel), g_mem 301 (by decide +kernel) (by decide +kernel)⟩
theorem l_Sw_147 : LkS "SwungShips" 147 y_Swing_sweptBy := ⟨g_mem 462 (by decide +kernel) (by decide +kernel), g_mem 412 (by decide +kernel) (by decide +kernel)⟩
theorem l_Sw_151 : LkS "SwungShips" 151 y_Swing_clashesOf := ⟨g_mem 463 (by decide +kernel) (by decide +kernel), g_mem 310 (by decide +kernel) (by decide +kernel)⟩
theorem l_Sw_155 : LkS "SwungShips" 155 y_Swing_liesWell := ⟨g_mem 464 (by decide +kernel) (by decide +kernel), g_mem 269 (by decide +kernel) (by decide +kernel)⟩
theorem l_Sw_159 : LkS "SwungShips" 159 y_Swing_leastWater := ⟨g_mem 465 (by decide +kernel) (by decide +kernel), g_mem 272 (by decide +kernel) (by decide +kernel)⟩
theorem l_Law_28 : LkV "SwungShipsLaw" 28 y_Sw_waits := ⟨g_mem 466 (by decide +kernel) (by decide +kernel), g_mem 467 (by decide +kernel) (by decide +kernel), g_mem 468 (by decide +kernel) (by decide +kernel)⟩
theorem l_Sw_162 : LkV "SwungShips" 162 y_Harb_hasWaiting := ⟨g_mem 470 (by decide +kernel) (by decide +kernel), g_mem 366 (by decide +kernel) (by decide +kernel), g_mem 367 (by decide +kernel) (by decide +kernel)⟩
theorem l_Sw_165 : LkV "SwungShips" 165 y_Sear_placesFor := ⟨g_mem 471 (by decide +kernel) (by decide +kernel), g_mem 453 (by decide +kernel) (by decide +kernel), g_mem 454 (by decide +kernel) (by decide +kernel)⟩
theorem l_Sw_168 : LkS "SwungShips" 168 y_Sw_firstOf := ⟨g_mem 472 (by decide +kernel) (by decide +kernel), g_mem 473 (by decide +kernel) (by decide +kernel)⟩
theorem l_Sw_213 : LkS "SwungShips" 213 y_Sw_holds := ⟨g_mem 475 (by decide +kernel) (by decide +kernel), g_mem 398 (by decide +kernel) (by decide +kernel)⟩
theorem l_Sw_171 : LkV "SwungShips" 171 y_Sw_cellOfSpot := ⟨g_mem 476 (by decide +kernel) (by decide +kernel), g_mem 478 (by decide +kernel) (by decide +kernel), g_mem 6 (by decide +kernel) (by decide +kernel)⟩
theorem l_Sw_267 : LkS "SwungShips" 267 y_Sw_columnOf := ⟨g_mem 480 (by decide +kernel) (by decide +kernel), g_mem 388 (by decide +kernel) (by decide +kernel)⟩
theorem l_Sw_270 : LkS "SwungShips" 270 y_Sw_lineOf := ⟨g_mem 481 (by decide +kernel) (by decide +kernel), g_mem 391 (by decide +kernel) (by decide +kernel)⟩
theorem l_Sw_178 : LkV "SwungShips" 178 y_Sear_settlesByMoves := ⟨g_mem 482 (by decide +kernel) (by decide +kernel), g_mem 483 (by decide +kernel) (by decide +kernel), g_mem 484 (by decide +kernel) (by decide +kernel)⟩
theorem l_Sear_63 : LkS "SwungShips$Search" 63 y_Integer_bitCount := ⟨g_mem 486 (by decide +kernel) (by decide +kernel), g_mem 322 (by decide +kernel) (by decide +kernel)⟩
theorem l_Sear_69 : LkV "SwungShips$Search" 69 y_Sear_settlesMoving := ⟨g_mem 487 (by decide +kernel) (by decide +kernel), g_mem 489 (by decide +kernel) (by decide +kernel), g_mem 7 (by decide +kernel) (by decide +kernel)⟩
theorem l_Sw_185 : LkS "SwungShips" 185 y_Integer_bitCount := ⟨g_mem 491 (by decide +kernel) (by decide +kernel), g_mem 322 (by decide +kernel) (by decide +kernel)⟩
theorem l_Law_32 : LkV "SwungShipsLaw" 32 y_Sw_moves := ⟨g_mem 492 (by decide +kernel) (by decide +kernel), g_mem 493 (by decide +kernel) (by decide +kernel), g_mem 494 (by decide +kernel) (by decide +kernel)⟩
theorem l_Law_36 : LkV "SwungShipsLaw" 36 y_Sw_lies := ⟨g_mem 496 (by decide +kernel) (by decide +kernel), g_mem 497 (by decide +kernel) (by decide +kernel), g_mem 498 (by decide +kernel) (by decide +kernel)⟩
theorem l_Sw_189 : LkS "SwungShips" 189 y_Swing_liesOn := ⟨g_mem 500 (by decide +kernel) (by decide +kernel), g_mem 501 (by decide +kernel) (by decide +kernel)⟩
theorem l_Law_41 : LkV "SwungShipsLaw" 41 y_Sw_harbour := ⟨g_mem 503 (by decide +kernel) (by decide +kernel), g_mem 504 (by decide +kernel) (by decide +kernel), g_mem 505 (by decide +kernel) (by decide +kernel)⟩
theorem l_Sw_193 : LkS "SwungShips" 193 y_Sw_isOut := ⟨g_mem 507 (by decide +kernel) (by decide +kernel), g_mem 508 (by decide +kernel) (by decide +kernel)⟩
theorem l_Sw_197 : LkV "SwungShips" 197 y_Hist_remember := ⟨g_mem 510 (by decide +kernel) (by decide +kernel), g_mem 511 (by decide +kernel) (by decide +kernel), g_mem 512 (by decide +kernel) (by decide +kernel)⟩
theorem l_Hist_22 : LkV "SwungShips$History" 22 y_Harb_copyFrom := ⟨g_mem 514 (by decide +kernel) (by decide +kernel), g_mem 515 (by decide +kernel) (by decide +kernel), g_mem 516 (by decide +kernel) (by decide +kernel)⟩
theorem ac_Harb_53 : Cond.methodLink "SwungShips$Harbour" 53 arraycopyName ∈ gtbl := g_mem 518 (by decide +kernel) (by decide +kernel)
theorem l_Hist_29 : LkS "SwungShips$History" 29 y_Math_min := ⟨g_mem 521 (by decide +kernel) (by decide +kernel), g_mem 307 (by decide +kernel) (by decide +kernel)⟩
theorem l_Sw_201 : LkV "SwungShips" 201 y_Harb_layOut := ⟨g_mem 522 (by decide +kernel) (by decide +kernel), g_mem 79 (by decide +kernel) (by decide +kernel), g_mem 80 (by decide +kernel) (by decide +kernel)⟩
theorem l_Law_45 : LkV "SwungShipsLaw" 45 y_Sw_depth := ⟨g_mem 523 (by decide +kernel) (by decide +kernel), g_mem 524 (by decide +kernel) (by decide +kernel), g_mem 525 (by decide +kernel) (by decide +kernel)⟩
theorem l_Sw_205 : LkV "SwungShips" 205 y_Harb_changeDepth := ⟨g_mem 527 (by decide +kernel) (by decide +kernel), g_mem 528 (by decide +kernel) (by decide +kernel), g_mem 529 (by decide +kernel) (by decide +kernel)⟩
theorem l_Law_49 : LkV "SwungShipsLaw" 49 y_Sw_tide := ⟨g_mem 531 (by decide +kernel) (by decide +kernel), g_mem 532 (by decide +kernel) (by decide +kernel), g_mem 533 (by decide +kernel) (by decide +kernel)⟩
theorem l_Law_53 : LkV "SwungShipsLaw" 53 y_Sw_winds := ⟨g_mem 535 (by decide +kernel) (by decide +kernel), g_mem 536 (by decide +kernel) (by decide +kernel), g_mem 537 (by decide +kernel) (by decide +kernel)⟩
theorem l_Law_57 : LkV "SwungShipsLaw" 57 y_Sw_arrive := ⟨g_mem 539 (by decide +kernel) (by decide +kernel), g_mem 540 (by decide +kernel) (by decide +kernel), g_mem 541 (by decide +kernel) (by decide +kernel)⟩
theorem k_Sw_208 : Cond.constant "SwungShips" 208 (-1000000004) ∈ gtbl := g_mem 543 (by decide +kernel) (by decide +kernel)
theorem l_Sw_209 : LkV "SwungShips" 209 y_Harb_letWait := ⟨g_mem 544 (by decide +kernel) (by decide +kernel), g_mem 545 (by decide +kernel) (by decide +kernel), g_mem 546 (by decide +kernel) (by decide +kernel)⟩
theorem l_Law_61 : LkV "SwungShipsLaw" 61 y_Sw_anchor := ⟨g_mem 548 (by decide +kernel) (by decide +kernel), g_mem 549 (by decide +kernel) (by decide +kernel), g_mem 550 (by decide +kernel) (by decide +kernel)⟩
theorem k_Sw_217 : Cond.constant "SwungShips" 217 (-1000000003) ∈ gtbl := g_mem 552 (by decide +kernel) (by decide +kernel)
theorem l_Sw_218 : LkV "SwungShips" 218 y_Harb_bringToAnchor := ⟨g_mem 553 (by decide +kernel) (by decide +kernel), g_mem 554 (by decide +kernel) (by decide +kernel), g_mem 555 (by decide +kernel) (by decide +kernel)⟩
theorem l_Harb_86 : LkV "SwungShips$Harbour" 86 y_Harb_copySlot := ⟨g_mem 557 (by decide +kernel) (by decide +kernel), g_mem 559 (by decide +kernel) (by decide +kernel), g_mem 8 (by decide +kernel) (by decide +kernel)⟩
theorem l_Harb_89 : LkV "SwungShips$Harbour" 89 y_Harb_putAt := ⟨g_mem 561 (by decide +kernel) (by decide +kernel), g_mem 562 (by decide +kernel) (by decide +kernel), g_mem 563 (by decide +kernel) (by decide +kernel)⟩
theorem l_Harb_92 : LkV "SwungShips$Harbour" 92 y_Harb_dropWaiting := ⟨g_mem 567 (by decide +kernel) (by decide +kernel), g_mem 568 (by decide +kernel) (by decide +kernel), g_mem 569 (by decide +kernel) (by decide +kernel)⟩
theorem l_Law_65 : LkV "SwungShipsLaw" 65 y_Sw_fit := ⟨g_mem 571 (by decide +kernel) (by decide +kernel), g_mem 572 (by decide +kernel) (by decide +kernel), g_mem 573 (by decide +kernel) (by decide +kernel)⟩
theorem l_Law_69 : LkV "SwungShipsLaw" 69 y_Sw_fitAll := ⟨g_mem 575 (by decide +kernel) (by decide +kernel), g_mem 576 (by decide +kernel) (by decide +kernel), g_mem 577 (by decide +kernel) (by decide +kernel)⟩
theorem l_Law_74 : LkV "SwungShipsLaw" 74 y_Sw_shift := ⟨g_mem 579 (by decide +kernel) (by decide +kernel), g_mem 580 (by decide +kernel) (by decide +kernel), g_mem 581 (by decide +kernel) (by decide +kernel)⟩
theorem l_Sw_227 : LkV "SwungShips" 227 y_Harb_putAt := ⟨g_mem 583 (by decide +kernel) (by decide +kernel), g_mem 562 (by decide +kernel) (by decide +kernel), g_mem 563 (by decide +kernel) (by decide +kernel)⟩
theorem l_Law_78 : LkV "SwungShipsLaw" 78 y_Sw_leave := ⟨g_mem 584 (by decide +kernel) (by decide +kernel), g_mem 585 (by decide +kernel) (by decide +kernel), g_mem 586 (by decide +kernel) (by decide +kernel)⟩
theorem l_Sw_230 : LkV "SwungShips" 230 y_Harb_dropAnchored := ⟨g_mem 588 (by decide +kernel) (by decide +kernel), g_mem 589 (by decide +kernel) (by decide +kernel), g_mem 590 (by decide +kernel) (by decide +kernel)⟩
theorem l_Law_82 : LkV "SwungShipsLaw" 82 y_Sw_turnAway := ⟨g_mem 592 (by decide +kernel) (by decide +kernel), g_mem 593 (by decide +kernel) (by decide +kernel), g_mem 594 (by decide +kernel) (by decide +kernel)⟩
theorem l_Sw_234 : LkV "SwungShips" 234 y_Harb_dropWaiting := ⟨g_mem 596 (by decide +kernel) (by decide +kernel), g_mem 568 (by decide +kernel) (by decide +kernel), g_mem 569 (by decide +kernel) (by decide +kernel)⟩
theorem l_Law_86 : LkV "SwungShipsLaw" 86 y_Sw_drift := ⟨g_mem 597 (by decide +kernel) (by decide +kernel), g_mem 598 (by decide +kernel) (by decide +kernel), g_mem 599 (by decide +kernel) (by decide +kernel)⟩
theorem l_Sw_237 : LkV "SwungShips" 237 y_Sw_draw := ⟨g_mem 601 (by decide +kernel) (by decide +kernel), g_mem 603 (by decide +kernel) (by decide +kernel), g_mem 9 (by decide +kernel) (by decide +kernel)⟩
theorem k_Sw_273 : Cond.constant "SwungShips" 273 (1103515245) ∈ gtbl := g_mem 605 (by decide +kernel) (by decide +kernel)
theorem k_Sw_274 : Cond.constant "SwungShips" 274 (2147483647) ∈ gtbl := g_mem 606 (by decide +kernel) (by decide +kernel)
theorem k_Sw_275 : Cond.constant "SwungShips" 275 (65536) ∈ gtbl := g_mem 607 (by decide +kernel) (by decide +kernel)
theorem l_Law_90 : LkV "SwungShipsLaw" 90 y_Sw_undo := ⟨g_mem 608 (by decide +kernel) (by decide +kernel), g_mem 609 (by decide +kernel) (by decide +kernel), g_mem 610 (by decide +kernel) (by decide +kernel)⟩
theorem l_Sw_240 : LkV "SwungShips" 240 y_Hist_bringBack := ⟨g_mem 612 (by decide +kernel) (by decide +kernel), g_mem 613 (by decide +kernel) (by decide +kernel), g_mem 614 (by decide +kernel) (by decide +kernel)⟩
theorem l_Hist_35 : LkS "SwungShips$History" 35 y_Math_floorMod := ⟨g_mem 616 (by decide +kernel) (by decide +kernel), g_mem 617 (by decide +kernel) (by decide +kernel)⟩
theorem l_Law_94 : LkV "SwungShipsLaw" 94 y_Sw_write := ⟨g_mem 619 (by decide +kernel) (by decide +kernel), g_mem 620 (by decide +kernel) (by decide +kernel), g_mem 621 (by decide +kernel) (by decide +kernel)⟩
theorem l_Sw_244 : LkV "SwungShips" 244 y_Book_add := ⟨g_mem 623 (by decide +kernel) (by decide +kernel), g_mem 624 (by decide +kernel) (by decide +kernel), g_mem 625 (by decide +kernel) (by decide +kernel)⟩
theorem l_Law_98 : LkV "SwungShipsLaw" 98 y_Sw_tear := ⟨g_mem 627 (by decide +kernel) (by decide +kernel), g_mem 628 (by decide +kernel) (by decide +kernel), g_mem 629 (by decide +kernel) (by decide +kernel)⟩
theorem l_Law_102 : LkV "SwungShipsLaw" 102 y_Sw_seed := ⟨g_mem 631 (by decide +kernel) (by decide +kernel), g_mem 632 (by decide +kernel) (by decide +kernel), g_mem 633 (by decide +kernel) (by decide +kernel)⟩
theorem l_Law_106 : LkV "SwungShipsLaw" 106 y_Sw_keep := ⟨g_mem 635 (by decide +kernel) (by decide +kernel), g_mem 636 (by decide +kernel) (by decide +kernel), g_mem 637 (by decide +kernel) (by decide +kernel)⟩
theorem l_Sw_247 : LkV "SwungShips" 247 y_Imag_take := ⟨g_mem 639 (by decide +kernel) (by decide +kernel), g_mem 640 (by decide +kernel) (by decide +kernel), g_mem 641 (by decide +kernel) (by decide +kernel)⟩
theorem l_Imag_16 : LkV "SwungShips$Image" 16 y_Harb_copyFrom := ⟨g_mem 643 (by decide +kernel) (by decide +kernel), g_mem 515 (by decide +kernel) (by decide +kernel), g_mem 516 (by decide +kernel) (by decide +kernel)⟩
theorem l_Sw_251 : LkV "SwungShips" 251 y_Hist_forget := ⟨g_mem 644 (by decide +kernel) (by decide +kernel), g_mem 645 (by decide +kernel) (by decide +kernel), g_mem 646 (by decide +kernel) (by decide +kernel)⟩
theorem l_Law_110 : LkV "SwungShipsLaw" 110 y_Sw_goBack := ⟨g_mem 648 (by decide +kernel) (by decide +kernel), g_mem 649 (by decide +kernel) (by decide +kernel), g_mem 650 (by decide +kernel) (by decide +kernel)⟩
theorem l_Sw_261 : LkV "SwungShips" 261 y_Harb_copyFrom := ⟨g_mem 652 (by decide +kernel) (by decide +kernel), g_mem 515 (by decide +kernel) (by decide +kernel), g_mem 516 (by decide +kernel) (by decide +kernel)⟩
theorem c_Law_10 : Cond.classLink "SwungShipsLaw" 10 "SwungShipsModel" ∈ gtbl := g_mem 653 (by decide +kernel) (by decide +kernel)
theorem n_Mod : Cond.instantiable "SwungShipsModel" 12 ∈ gtbl ∧ Cond.initialized "SwungShipsModel" ∈ gtbl := ⟨g_mem 654 (by decide +kernel) (by decide +kernel), g_mem 58 (by decide +kernel) (by decide +kernel)⟩
theorem l_Law_12 : LkI "SwungShipsLaw" 12 y_Mod_init := ⟨g_mem 655 (by decide +kernel) (by decide +kernel), g_mem 656 (by decide +kernel) (by decide +kernel), rfl⟩
theorem o_Mod_1 : Cond.methodLink "SwungShipsModel" 1 objectInit ∈ gtbl := g_mem 658 (by decide +kernel) (by decide +kernel)
theorem l_Mod_32 : LkV "SwungShipsModel" 32 y_Mod_begin := ⟨g_mem 659 (by decide +kernel) (by decide +kernel), g_mem 661 (by decide +kernel) (by decide +kernel), g_mem 10 (by decide +kernel) (by decide +kernel)⟩
theorem f_Mod_7 : FL "SwungShipsModel" 7 6 0 := ⟨_, _, _, _, ck_Mod, by decide, g_mem 663 (by decide +kernel) (by decide +kernel)⟩
theorem f_Mod_153 : FL "SwungShipsModel" 153 6 1 := ⟨_, _, _, _, ck_Mod, by decide, g_mem 664 (by decide +kernel) (by decide +kernel)⟩
theorem f_Mod_216 : FL "SwungShipsModel" 216 6 2 := ⟨_, _, _, _, ck_Mod, by decide, g_mem 665 (by decide +kernel) (by decide +kernel)⟩
theorem f_Mod_156 : FL "SwungShipsModel" 156 6 3 := ⟨_, _, _, _, ck_Mod, by decide, g_mem 666 (by decide +kernel) (by decide +kernel)⟩
theorem f_Mod_13 : FL "SwungShipsModel" 13 6 4 := ⟨_, _, _, _, ck_Mod, by decide, g_mem 667 (by decide +kernel) (by decide +kernel)⟩
theorem f_Mod_16 : FL "SwungShipsModel" 16 6 5 := ⟨_, _, _, _, ck_Mod, by decide, g_mem 668 (by decide +kernel) (by decide +kernel)⟩
theorem f_Mod_19 : FL "SwungShipsModel" 19 6 6 := ⟨_, _, _, _, ck_Mod, by decide, g_mem 669 (by decide +kernel) (by decide +kernel)⟩
theorem f_Mod_131 : FL "SwungShipsModel" 131 6 7 := ⟨_, _, _, _, ck_Mod, by decide, g_mem 670 (by decide +kernel) (by decide +kernel)⟩
theorem f_Mod_22 : FL "SwungShipsModel" 22 6 8 := ⟨_, _, _, _, ck_Mod, by decide, g_mem 671 (by decide +kernel) (by decide +kernel)⟩
theorem f_Mod_25 : FL "SwungShipsModel" 25 6 9 := ⟨_, _, _, _, ck_Mod, by decide, g_mem 672 (by decide +kernel) (by decide +kernel)⟩
theorem f_Mod_28 : FL "SwungShipsModel" 28 6 10 := ⟨_, _, _, _, ck_Mod, by decide, g_mem 673 (by decide +kernel) (by decide +kernel)⟩
theorem f_Mod_121 : FL "SwungShipsModel" 121 6 11 := ⟨_, _, _, _, ck_Mod, by decide, g_mem 674 (by decide +kernel) (by decide +kernel)⟩
theorem a_boolean : Cond.arrayClass .boolean ∈ gtbl := g_mem 700 (by decide +kernel) (by decide +kernel)
theorem l_Law_17 : LkV "SwungShipsLaw" 17 y_Mod_told := ⟨g_mem 701 (by decide +kernel) (by decide +kernel), g_mem 702 (by decide +kernel) (by decide +kernel), g_mem 703 (by decide +kernel) (by decide +kernel)⟩
theorem l_Mod_93 : LkV "SwungShipsModel" 93 y_Mod_danger := ⟨g_mem 705 (by decide +kernel) (by decide +kernel), g_mem 707 (by decide +kernel) (by decide +kernel), g_mem 11 (by decide +kernel) (by decide +kernel)⟩
theorem l_Mod_86 : LkV "SwungShipsModel" 86 y_Mod_liesWell := ⟨g_mem 709 (by decide +kernel) (by decide +kernel), g_mem 711 (by decide +kernel) (by decide +kernel), g_mem 12 (by decide +kernel) (by decide +kernel)⟩
theorem l_Mod_77 : LkS "SwungShipsModel" 77 y_Mod_shipAt := ⟨g_mem 713 (by decide +kernel) (by decide +kernel), g_mem 714 (by decide +kernel) (by decide +kernel)⟩
theorem l_Mod_83 : LkV "SwungShipsModel" 83 y_Mod_mayLie := ⟨g_mem 716 (by decide +kernel) (by decide +kernel), g_mem 718 (by decide +kernel) (by decide +kernel), g_mem 13 (by decide +kernel) (by decide +kernel)⟩
theorem l_Mod_69 : LkV "SwungShipsModel" 69 y_Mod_leastWater := ⟨g_mem 720 (by decide +kernel) (by decide +kernel), g_mem 722 (by decide +kernel) (by decide +kernel), g_mem 14 (by decide +kernel) (by decide +kernel)⟩
theorem l_Mod_58 : LkS "SwungShipsModel" 58 y_Mod_has := ⟨g_mem 724 (by decide +kernel) (by decide +kernel), g_mem 725 (by decide +kernel) (by decide +kernel)⟩
theorem l_Mod_51 : LkV "SwungShipsModel" 51 y_Mod_left := ⟨g_mem 727 (by decide +kernel) (by decide +kernel), g_mem 729 (by decide +kernel) (by decide +kernel), g_mem 15 (by decide +kernel) (by decide +kernel)⟩
theorem l_Mod_44 : LkS "SwungShipsModel" 44 y_Mod_windX := ⟨g_mem 731 (by decide +kernel) (by decide +kernel), g_mem 732 (by decide +kernel) (by decide +kernel)⟩
theorem l_Mod_55 : LkV "SwungShipsModel" 55 y_Mod_top := ⟨g_mem 734 (by decide +kernel) (by decide +kernel), g_mem 736 (by decide +kernel) (by decide +kernel), g_mem 16 (by decide +kernel) (by decide +kernel)⟩
theorem l_Mod_48 : LkS "SwungShipsModel" 48 y_Mod_windY := ⟨g_mem 738 (by decide +kernel) (by decide +kernel), g_mem 739 (by decide +kernel) (by decide +kernel)⟩
theorem l_Mod_40 : LkV "SwungShipsModel" 40 y_Mod_isCell := ⟨g_mem 741 (by decide +kernel) (by decide +kernel), g_mem 743 (by decide +kernel) (by decide +kernel), g_mem 17 (by decide +kernel) (by decide +kernel)⟩
theorem l_Mod_36 : LkS "SwungShipsModel" 36 y_Mod_in := ⟨g_mem 745 (by decide +kernel) (by decide +kernel), g_mem 746 (by decide +kernel) (by decide +kernel)⟩
theorem l_Mod_65 : LkV "SwungShipsModel" 65 y_Mod_water := ⟨g_mem 748 (by decide +kernel) (by decide +kernel), g_mem 750 (by decide +kernel) (by decide +kernel), g_mem 18 (by decide +kernel) (by decide +kernel)⟩
theorem l_Mod_90 : LkV "SwungShipsModel" 90 y_Mod_clashes := ⟨g_mem 752 (by decide +kernel) (by decide +kernel), g_mem 754 (by decide +kernel) (by decide +kernel), g_mem 19 (by decide +kernel) (by decide +kernel)⟩
theorem l_Mod_80 : LkV "SwungShipsModel" 80 y_Mod_clash := ⟨g_mem 756 (by decide +kernel) (by decide +kernel), g_mem 758 (by decide +kernel) (by decide +kernel), g_mem 20 (by decide +kernel) (by decide +kernel)⟩
theorem l_Mod_73 : LkS "SwungShipsModel" 73 y_Mod_share := ⟨g_mem 760 (by decide +kernel) (by decide +kernel), g_mem 761 (by decide +kernel) (by decide +kernel)⟩
theorem l_Mod_137 : LkV "SwungShipsModel" 137 y_Mod_clashPairs := ⟨g_mem 763 (by decide +kernel) (by decide +kernel), g_mem 765 (by decide +kernel) (by decide +kernel), g_mem 21 (by decide +kernel) (by decide +kernel)⟩
theorem l_Mod_115 : LkS "SwungShipsModel" 115 y_Mod_ones := ⟨g_mem 767 (by decide +kernel) (by decide +kernel), g_mem 768 (by decide +kernel) (by decide +kernel)⟩
theorem l_Mod_140 : LkV "SwungShipsModel" 140 y_Mod_placesForAll := ⟨g_mem 770 (by decide +kernel) (by decide +kernel), g_mem 772 (by decide +kernel) (by decide +kernel), g_mem 22 (by decide +kernel) (by decide +kernel)⟩
theorem l_Mod_100 : LkS "SwungShipsModel" 100 y_Mod_waitAt := ⟨g_mem 774 (by decide +kernel) (by decide +kernel), g_mem 775 (by decide +kernel) (by decide +kernel)⟩
theorem l_Mod_112 : LkV "SwungShipsModel" 112 y_Mod_tryRows := ⟨g_mem 777 (by decide +kernel) (by decide +kernel), g_mem 779 (by decide +kernel) (by decide +kernel), g_mem 23 (by decide +kernel) (by decide +kernel)⟩
theorem l_Mod_106 : LkV "SwungShipsModel" 106 y_Mod_layFree := ⟨g_mem 781 (by decide +kernel) (by decide +kernel), g_mem 783 (by decide +kernel) (by decide +kernel), g_mem 24 (by decide +kernel) (by decide +kernel)⟩
theorem l_Mod_97 : LkV "SwungShipsModel" 97 y_Mod_cells := ⟨g_mem 785 (by decide +kernel) (by decide +kernel), g_mem 787 (by decide +kernel) (by decide +kernel), g_mem 25 (by decide +kernel) (by decide +kernel)⟩
theorem l_Mod_103 : LkV "SwungShipsModel" 103 y_Mod_isFree := ⟨g_mem 789 (by decide +kernel) (by decide +kernel), g_mem 791 (by decide +kernel) (by decide +kernel), g_mem 26 (by decide +kernel) (by decide +kernel)⟩
theorem l_Mod_109 : LkV "SwungShipsModel" 109 y_Mod_fitsBehind := ⟨g_mem 793 (by decide +kernel) (by decide +kernel), g_mem 795 (by decide +kernel) (by decide +kernel), g_mem 27 (by decide +kernel) (by decide +kernel)⟩
theorem l_Mod_144 : LkV "SwungShipsModel" 144 y_Mod_threats := ⟨g_mem 797 (by decide +kernel) (by decide +kernel), g_mem 799 (by decide +kernel) (by decide +kernel), g_mem 28 (by decide +kernel) (by decide +kernel)⟩
theorem l_Mod_147 : LkV "SwungShipsModel" 147 y_Mod_swept := ⟨g_mem 801 (by decide +kernel) (by decide +kernel), g_mem 803 (by decide +kernel) (by decide +kernel), g_mem 29 (by decide +kernel) (by decide +kernel)⟩
theorem l_Mod_128 : LkV "SwungShipsModel" 128 y_Mod_sweepers := ⟨g_mem 805 (by decide +kernel) (by decide +kernel), g_mem 807 (by decide +kernel) (by decide +kernel), g_mem 30 (by decide +kernel) (by decide +kernel)⟩
theorem l_Mod_125 : LkV "SwungShipsModel" 125 y_Mod_sweeps := ⟨g_mem 809 (by decide +kernel) (by decide +kernel), g_mem 811 (by decide +kernel) (by decide +kernel), g_mem 31 (by decide +kernel) (by decide +kernel)⟩
theorem l_Mod_61 : LkV "SwungShipsModel" 61 y_Mod_liesOn := ⟨g_mem 813 (by decide +kernel) (by decide +kernel), g_mem 815 (by decide +kernel) (by decide +kernel), g_mem 32 (by decide +kernel) (by decide +kernel)⟩
theorem l_Mod_150 : LkV "SwungShipsModel" 150 y_Mod_wrongEntry := ⟨g_mem 817 (by decide +kernel) (by decide +kernel), g_mem 819 (by decide +kernel) (by decide +kernel), g_mem 33 (by decide +kernel) (by decide +kernel)⟩
theorem l_Mod_134 : LkV "SwungShipsModel" 134 y_Mod_isShip := ⟨g_mem 821 (by decide +kernel) (by decide +kernel), g_mem 823 (by decide +kernel) (by decide +kernel), g_mem 34 (by decide +kernel) (by decide +kernel)⟩
theorem k_Mod_159 : Cond.constant "SwungShipsModel" 159 (-1000000002) ∈ gtbl := g_mem 825 (by decide +kernel) (by decide +kernel)
theorem l_Law_22 : LkV "SwungShipsLaw" 22 y_Mod_cell := ⟨g_mem 826 (by decide +kernel) (by decide +kernel), g_mem 827 (by decide +kernel) (by decide +kernel), g_mem 828 (by decide +kernel) (by decide +kernel)⟩
theorem k_Mod_160 : Cond.constant "SwungShipsModel" 160 (-1000000001) ∈ gtbl := g_mem 830 (by decide +kernel) (by decide +kernel)
theorem l_Mod_161 : LkV "SwungShipsModel" 161 y_Mod_fitters := ⟨g_mem 831 (by decide +kernel) (by decide +kernel), g_mem 833 (by decide +kernel) (by decide +kernel), g_mem 35 (by decide +kernel) (by decide +kernel)⟩
theorem l_Law_27 : LkV "SwungShipsLaw" 27 y_Mod_ship := ⟨g_mem 835 (by decide +kernel) (by decide +kernel), g_mem 836 (by decide +kernel) (by decide +kernel), g_mem 837 (by decide +kernel) (by decide +kernel)⟩
theorem l_Mod_164 : LkV "SwungShipsModel" 164 y_Mod_sweptBy := ⟨g_mem 839 (by decide +kernel) (by decide +kernel), g_mem 841 (by decide +kernel) (by decide +kernel), g_mem 36 (by decide +kernel) (by decide +kernel)⟩
theorem l_Law_31 : LkV "SwungShipsLaw" 31 y_Mod_waits := ⟨g_mem 843 (by decide +kernel) (by decide +kernel), g_mem 844 (by decide +kernel) (by decide +kernel), g_mem 845 (by decide +kernel) (by decide +kernel)⟩
theorem l_Mod_170 : LkV "SwungShipsModel" 170 y_Mod_isWaiting := ⟨g_mem 847 (by decide +kernel) (by decide +kernel), g_mem 849 (by decide +kernel) (by decide +kernel), g_mem 37 (by decide +kernel) (by decide +kernel)⟩
theorem l_Mod_173 : LkV "SwungShipsModel" 173 y_Mod_places := ⟨g_mem 851 (by decide +kernel) (by decide +kernel), g_mem 853 (by decide +kernel) (by decide +kernel), g_mem 38 (by decide +kernel) (by decide +kernel)⟩
theorem l_Mod_176 : LkV "SwungShipsModel" 176 y_Mod_firstPlace := ⟨g_mem 855 (by decide +kernel) (by decide +kernel), g_mem 857 (by decide +kernel) (by decide +kernel), g_mem 39 (by decide +kernel) (by decide +kernel)⟩
theorem l_Mod_179 : LkV "SwungShipsModel" 179 y_Mod_inFirst := ⟨g_mem 859 (by decide +kernel) (by decide +kernel), g_mem 861 (by decide +kernel) (by decide +kernel), g_mem 40 (by decide +kernel) (by decide +kernel)⟩
theorem l_Mod_167 : LkV "SwungShipsModel" 167 y_Mod_layMoves := ⟨g_mem 863 (by decide +kernel) (by decide +kernel), g_mem 865 (by decide +kernel) (by decide +kernel), g_mem 41 (by decide +kernel) (by decide +kernel)⟩
theorem l_Mod_118 : LkV "SwungShipsModel" 118 y_Mod_tryMoved := ⟨g_mem 867 (by decide +kernel) (by decide +kernel), g_mem 869 (by decide +kernel) (by decide +kernel), g_mem 42 (by decide +kernel) (by decide +kernel)⟩
theorem l_Mod_182 : LkV "SwungShipsModel" 182 y_Mod_movedBy := ⟨g_mem 871 (by decide +kernel) (by decide +kernel), g_mem 873 (by decide +kernel) (by decide +kernel), g_mem 43 (by decide +kernel) (by decide +kernel)⟩
theorem l_Law_35 : LkV "SwungShipsLaw" 35 y_Mod_moves := ⟨g_mem 875 (by decide +kernel) (by decide +kernel), g_mem 876 (by decide +kernel) (by decide +kernel), g_mem 877 (by decide +kernel) (by decide +kernel)⟩
theorem l_Law_40 : LkV "SwungShipsLaw" 40 y_Mod_lies := ⟨g_mem 879 (by decide +kernel) (by decide +kernel), g_mem 880 (by decide +kernel) (by decide +kernel), g_mem 881 (by decide +kernel) (by decide +kernel)⟩
theorem l_Law_44 : LkV "SwungShipsLaw" 44 y_Mod_harbour := ⟨g_mem 883 (by decide +kernel) (by decide +kernel), g_mem 884 (by decide +kernel) (by decide +kernel), g_mem 885 (by decide +kernel) (by decide +kernel)⟩
theorem l_Mod_188 : LkV "SwungShipsModel" 188 y_Mod_remember := ⟨g_mem 887 (by decide +kernel) (by decide +kernel), g_mem 889 (by decide +kernel) (by decide +kernel), g_mem 44 (by decide +kernel) (by decide +kernel)⟩
theorem l_Mod_185 : LkV "SwungShipsModel" 185 y_Mod_copyRow := ⟨g_mem 891 (by decide +kernel) (by decide +kernel), g_mem 893 (by decide +kernel) (by decide +kernel), g_mem 45 (by decide +kernel) (by decide +kernel)⟩
theorem l_Law_48 : LkV "SwungShipsLaw" 48 y_Mod_depth := ⟨g_mem 895 (by decide +kernel) (by decide +kernel), g_mem 896 (by decide +kernel) (by decide +kernel), g_mem 897 (by decide +kernel) (by decide +kernel)⟩
theorem l_Mod_191 : LkV "SwungShipsModel" 191 y_Mod_put := ⟨g_mem 899 (by decide +kernel) (by decide +kernel), g_mem 901 (by decide +kernel) (by decide +kernel), g_mem 46 (by decide +kernel) (by decide +kernel)⟩
theorem l_Law_52 : LkV "SwungShipsLaw" 52 y_Mod_tide := ⟨g_mem 903 (by decide +kernel) (by decide +kernel), g_mem 904 (by decide +kernel) (by decide +kernel), g_mem 905 (by decide +kernel) (by decide +kernel)⟩
theorem l_Law_56 : LkV "SwungShipsLaw" 56 y_Mod_winds := ⟨g_mem 907 (by decide +kernel) (by decide +kernel), g_mem 908 (by decide +kernel) (by decide +kernel), g_mem 909 (by decide +kernel) (by decide +kernel)⟩
theorem l_Law_60 : LkV "SwungShipsLaw" 60 y_Mod_arrive := ⟨g_mem 911 (by decide +kernel) (by decide +kernel), g_mem 912 (by decide +kernel) (by decide +kernel), g_mem 913 (by decide +kernel) (by decide +kernel)⟩
theorem k_Mod_194 : Cond.constant "SwungShipsModel" 194 (-1000000004) ∈ gtbl := g_mem 915 (by decide +kernel) (by decide +kernel)
theorem l_Law_64 : LkV "SwungShipsLaw" 64 y_Mod_anchor := ⟨g_mem 916 (by decide +kernel) (by decide +kernel), g_mem 917 (by decide +kernel) (by decide +kernel), g_mem 918 (by decide +kernel) (by decide +kernel)⟩
theorem k_Mod_202 : Cond.constant "SwungShipsModel" 202 (-1000000003) ∈ gtbl := g_mem 920 (by decide +kernel) (by decide +kernel)
theorem l_Mod_203 : LkV "SwungShipsModel" 203 y_Mod_come := ⟨g_mem 921 (by decide +kernel) (by decide +kernel), g_mem 923 (by decide +kernel) (by decide +kernel), g_mem 47 (by decide +kernel) (by decide +kernel)⟩
theorem l_Mod_195 : LkV "SwungShipsModel" 195 y_Mod_moor := ⟨g_mem 925 (by decide +kernel) (by decide +kernel), g_mem 927 (by decide +kernel) (by decide +kernel), g_mem 48 (by decide +kernel) (by decide +kernel)⟩
theorem l_Mod_198 : LkV "SwungShipsModel" 198 y_Mod_unwait := ⟨g_mem 929 (by decide +kernel) (by decide +kernel), g_mem 931 (by decide +kernel) (by decide +kernel), g_mem 49 (by decide +kernel) (by decide +kernel)⟩
theorem l_Law_68 : LkV "SwungShipsLaw" 68 y_Mod_fit := ⟨g_mem 933 (by decide +kernel) (by decide +kernel), g_mem 934 (by decide +kernel) (by decide +kernel), g_mem 935 (by decide +kernel) (by decide +kernel)⟩
theorem l_Law_73 : LkV "SwungShipsLaw" 73 y_Mod_fitAll := ⟨g_mem 937 (by decide +kernel) (by decide +kernel), g_mem 938 (by decide +kernel) (by decide +kernel), g_mem 939 (by decide +kernel) (by decide +kernel)⟩
theorem l_Law_77 : LkV "SwungShipsLaw" 77 y_Mod_shift := ⟨g_mem 941 (by decide +kernel) (by decide +kernel), g_mem 942 (by decide +kernel) (by decide +kernel), g_mem 943 (by decide +kernel) (by decide +kernel)⟩
theorem l_Law_81 : LkV "SwungShipsLaw" 81 y_Mod_leave := ⟨g_mem 945 (by decide +kernel) (by decide +kernel), g_mem 946 (by decide +kernel) (by decide +kernel), g_mem 947 (by decide +kernel) (by decide +kernel)⟩
theorem l_Law_85 : LkV "SwungShipsLaw" 85 y_Mod_turnAway := ⟨g_mem 949 (by decide +kernel) (by decide +kernel), g_mem 950 (by decide +kernel) (by decide +kernel), g_mem 951 (by decide +kernel) (by decide +kernel)⟩
theorem l_Law_89 : LkV "SwungShipsLaw" 89 y_Mod_drift := ⟨g_mem 953 (by decide +kernel) (by decide +kernel), g_mem 954 (by decide +kernel) (by decide +kernel), g_mem 955 (by decide +kernel) (by decide +kernel)⟩
theorem l_Mod_213 : LkV "SwungShipsModel" 213 y_Mod_draw := ⟨g_mem 957 (by decide +kernel) (by decide +kernel), g_mem 959 (by decide +kernel) (by decide +kernel), g_mem 50 (by decide +kernel) (by decide +kernel)⟩
theorem k_Mod_206 : Cond.constantLong "SwungShipsModel" 206 (1103515245) ∈ gtbl := g_mem 961 (by decide +kernel) (by decide +kernel)
theorem k_Mod_208 : Cond.constantLong "SwungShipsModel" 208 (12345) ∈ gtbl := g_mem 962 (by decide +kernel) (by decide +kernel)
theorem k_Mod_210 : Cond.constantLong "SwungShipsModel" 210 (2147483648) ∈ gtbl := g_mem 963 (by decide +kernel) (by decide +kernel)
theorem k_Mod_212 : Cond.constant "SwungShipsModel" 212 (65536) ∈ gtbl := g_mem 964 (by decide +kernel) (by decide +kernel)
theorem l_Law_93 : LkV "SwungShipsLaw" 93 y_Mod_undo := ⟨g_mem 965 (by decide +kernel) (by decide +kernel), g_mem 966 (by decide +kernel) (by decide +kernel), g_mem 967 (by decide +kernel) (by decide +kernel)⟩
theorem l_Law_97 : LkV "SwungShipsLaw" 97 y_Mod_write := ⟨g_mem 969 (by decide +kernel) (by decide +kernel), g_mem 970 (by decide +kernel) (by decide +kernel), g_mem 971 (by decide +kernel) (by decide +kernel)⟩
theorem l_Law_101 : LkV "SwungShipsLaw" 101 y_Mod_tear := ⟨g_mem 973 (by decide +kernel) (by decide +kernel), g_mem 974 (by decide +kernel) (by decide +kernel), g_mem 975 (by decide +kernel) (by decide +kernel)⟩
theorem l_Law_105 : LkV "SwungShipsLaw" 105 y_Mod_seed := ⟨g_mem 977 (by decide +kernel) (by decide +kernel), g_mem 978 (by decide +kernel) (by decide +kernel), g_mem 979 (by decide +kernel) (by decide +kernel)⟩
theorem l_Law_109 : LkV "SwungShipsLaw" 109 y_Mod_keep := ⟨g_mem 981 (by decide +kernel) (by decide +kernel), g_mem 982 (by decide +kernel) (by decide +kernel), g_mem 983 (by decide +kernel) (by decide +kernel)⟩
theorem l_Law_113 : LkV "SwungShipsLaw" 113 y_Mod_goBack := ⟨g_mem 985 (by decide +kernel) (by decide +kernel), g_mem 986 (by decide +kernel) (by decide +kernel), g_mem 987 (by decide +kernel) (by decide +kernel)⟩
/-- links to nest mates: these words are carried beside the tables -/
def nestW : List Cond := [.fieldLinkNest "SwungShips$Swing" 18 "SwungShips" "WIND_X" "[I" "SwungShips", .fieldLinkNest "SwungShips$Swing" 24 "SwungShips" "WIND_Y" "[I" "SwungShips", .methodLinkNest "SwungShips$Search" 93 y_Sw_spotAt "SwungShips", .fieldLinkNest "SwungShips$Search" 133 "SwungShips" "WIND_X" "[I" "SwungShips", .fieldLinkNest "SwungShips$Search" 136 "SwungShips" "WIND_Y" "[I" "SwungShips", .methodLinkNest "SwungShips$Search" 97 y_Sw_columnOf "SwungShips", .methodLinkNest "SwungShips$Search" 100 y_Sw_lineOf "SwungShips", .methodLinkNest "SwungShips$Search" 46 y_Sw_holds "SwungShips", .methodLinkNest "SwungShips$Swing" 54 y_Sw_spotAt "SwungShips", .methodLinkNest "SwungShips$Swing" 65 y_Sw_holds "SwungShips", .methodLinkNest "SwungShips$Harbour" 79 y_Sw_columnOf "SwungShips", .methodLinkNest "SwungShips$Harbour" 83 y_Sw_lineOf "SwungShips"]
theorem nestW_in : ∀ w ∈ nestW, w ∈ lw_tbl := fun w h => by
  have h1 : nestW = [284, 289, 342, 346, 347, 387, 390, 397, 418, 447, 565, 566].filterMap (fun i => lw_tbl[i]?) := by decide +kernel
  rw [h1] at h
  obtain ⟨i, -, hi⟩ := List.mem_filterMap.mp h
  exact List.mem_of_getElem? hi
theorem nestW_tab : ∀ w ∈ nestW, w.onTables = true := by decide +kernel
def LkN (own : String) (idx : Nat) (y : MethodName) (host : String) : Prop := Cond.methodLinkNest own idx y host ∈ nestW ∧ Cond.static y ∈ gtbl
def FLS (own : String) (idx : Nat) (n : String) : Prop := Cond.fieldLinkNest own idx "SwungShips" n "[I" "SwungShips" ∈ nestW
theorem fs_Swing_18 : FLS "SwungShips$Swing" 18 "WIND_X" := List.mem_of_getElem? (i := 0) (by decide +kernel)
theorem fs_Swing_24 : FLS "SwungShips$Swing" 24 "WIND_Y" := List.mem_of_getElem? (i := 1) (by decide +kernel)
theorem ln_Sear_93 : LkN "SwungShips$Search" 93 y_Sw_spotAt "SwungShips" := ⟨List.mem_of_getElem? (i := 2) (by decide +kernel), g_mem 343 (by decide +kernel) (by decide +kernel)⟩
theorem fs_Sear_133 : FLS "SwungShips$Search" 133 "WIND_X" := List.mem_of_getElem? (i := 3) (by decide +kernel)
theorem fs_Sear_136 : FLS "SwungShips$Search" 136 "WIND_Y" := List.mem_of_getElem? (i := 4) (by decide +kernel)
theorem ln_Sear_97 : LkN "SwungShips$Search" 97 y_Sw_columnOf "SwungShips" := ⟨List.mem_of_getElem? (i := 5) (by decide +kernel), g_mem 388 (by decide +kernel) (by decide +kernel)⟩
theorem ln_Sear_100 : LkN "SwungShips$Search" 100 y_Sw_lineOf "SwungShips" := ⟨List.mem_of_getElem? (i := 6) (by decide +kernel), g_mem 391 (by decide +kernel) (by decide +kernel)⟩
theorem ln_Sear_46 : LkN "SwungShips$Search" 46 y_Sw_holds "SwungShips" := ⟨List.mem_of_getElem? (i := 7) (by decide +kernel), g_mem 398 (by decide +kernel) (by decide +kernel)⟩
theorem ln_Swing_54 : LkN "SwungShips$Swing" 54 y_Sw_spotAt "SwungShips" := ⟨List.mem_of_getElem? (i := 8) (by decide +kernel), g_mem 343 (by decide +kernel) (by decide +kernel)⟩
theorem ln_Swing_65 : LkN "SwungShips$Swing" 65 y_Sw_holds "SwungShips" := ⟨List.mem_of_getElem? (i := 9) (by decide +kernel), g_mem 398 (by decide +kernel) (by decide +kernel)⟩
theorem ln_Harb_79 : LkN "SwungShips$Harbour" 79 y_Sw_columnOf "SwungShips" := ⟨List.mem_of_getElem? (i := 10) (by decide +kernel), g_mem 388 (by decide +kernel) (by decide +kernel)⟩
theorem ln_Harb_83 : LkN "SwungShips$Harbour" 83 y_Sw_lineOf "SwungShips" := ⟨List.mem_of_getElem? (i := 11) (by decide +kernel), g_mem 391 (by decide +kernel) (by decide +kernel)⟩
theorem oi_code : Cond.code objectInit ⟨#[0xb1]⟩ 1 none ∈ gtbl := g_mem 71 (by decide +kernel) (by decide +kernel)
theorem oi_inst : Cond.instanceMethod objectInit ∈ gtbl := g_mem 70 (by decide +kernel) (by decide +kernel)
theorem ac_nat : Cond.native arraycopyName ∈ gtbl := g_mem 520 (by decide +kernel) (by decide +kernel)
theorem ac_stat : Cond.static arraycopyName ∈ gtbl := g_mem 519 (by decide +kernel) (by decide +kernel)
theorem ac_ini : Cond.initialized "java/lang/System" ∈ gtbl := g_mem 63 (by decide +kernel) (by decide +kernel)
-- arrayOver 157 (Jvm.ClassFile.FieldType.object "SwungShips$Harbour")
-- arrayOver 221 (Jvm.ClassFile.FieldType.object "SwungShips$Image")
-- laysStatic 285 "SwungShips" "WIND_X" "[I"
-- laysStatic 290 "SwungShips" "WIND_Y" "[I"
