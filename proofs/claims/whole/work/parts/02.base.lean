/-! THE ABSTRACT MACHINE (own text): ints as Int, references as numbers of cells, one memory for all. Its judgement Wk stands on the kit's W. -/
/-- the tables' words that stay true while tables warm -/
def gtbl : List Cond := lw_tbl.filter goodWord
theorem g_mem {w : Cond} (i : Nat) (h : lw_tbl[i]? = some w) (hg : goodWord w = true) : w ∈ gtbl := List.mem_filter.mpr ⟨List.mem_of_getElem? h, hg⟩
theorem gtbl_good : ∀ w ∈ gtbl, w ∈ gtbl ∧ ((w.onTables && w.keeps) = true ∨ ∃ ty, w = .arrayClass ty) := fun w h => ⟨h, good_of_word (List.mem_filter.mp h).2⟩
/-- a method's context: its class, its bytes, its locals, what it answers, whether it is a constructor -/
abbrev CX : Type := String × ByteArray × Nat × Option FieldType × Bool
abbrev cxO (x : CX) : String := x.1
abbrev cxC (x : CX) : ByteArray := x.2.1
abbrev cxN (x : CX) : Nat := x.2.2.1
abbrev cxR (x : CX) : Option FieldType := x.2.2.2.1
abbrev cxI (x : CX) : Bool := x.2.2.2.2
/-- values: an int as a number, a long, a reference to a cell by its number, null -/
abbrev AV : Type := Int ⊕ (Int64 ⊕ Option Nat)
def vi (z : Int) : AV := .inl z
def vl (x : Int64) : AV := .inr (.inl x)
def vr (i : Nat) : AV := .inr (.inr (some i))
def vnull : AV := .inr (.inr none)
def nZ (z : Int) : Int32 := Int32.ofInt z
/-- a cell's shape: its kind (an object's class under 10; 10 int[], 11 long[], 12 boolean[], 13 Harbour[], 14 Image[]), its size, its references -/
abbrev SH : Type := Nat × Nat × (Nat → Option Nat)
/-- how many cells there are, and their shapes -/
abbrev LY : Type := Nat × (Nat → SH)
abbrev IM : Type := Nat → Int → Int
abbrev LM : Type := Nat → Int → Int64
/-- where the cells lie (from a number on), the cells that were there before, classes, array classes -/
abbrev GB : Type := Nat × (Nat → Nat) × va_G × (Nat → ClassId)
/-- the script: its length and its ints -/
abbrev RO : Type := Nat × (Int → Int)
def ad (g : GB) (i : Nat) : Nat := if i < 1000000 then g.1 + i else g.2.1 (i - 1000000)
def cv (g : GB) : AV → Value
  | .inl z => .int (nZ z)
  | .inr (.inl x) => .long x
  | .inr (.inr r) => va_rf (r.map (ad g))
def windX (w : Int) : Int := if w = 0 ∨ w = 4 then 0 else if w < 4 then 1 else -1
def windY (w : Int) : Int := if w = 2 ∨ w = 6 then 0 else if w < 2 ∨ 6 < w then 1 else -1
/-- fields that hold references -/
def rk (ci k : Nat) : Bool := match ci with
  | 0 => k < 2
  | 1 => 6 ≤ k
  | 2 => k < 1
  | 3 => k < 1
  | 4 => k < 2 || 4 ≤ k
  | 5 => k < 5
  | _ => k == 0 || (4 ≤ k && k < 7) || (8 ≤ k && k < 11)
def entO (g : GB) (I : IM) (id ci n : Nat) (rf : Nat → Option Nat) : List Value := (List.range n).map fun k => if rk ci k = true then va_rf ((rf k).map (ad g)) else .int (nZ (I id (k : Int)))
def ent (g : GB) (S : SH) (I : IM) (L : LM) (id : Nat) : va_E :=
  if S.1 < 10 then .inr (S.1, entO g I id S.1 S.2.1 S.2.2)
  else if S.1 = 11 then .inl (g.2.2.2 11, S.2.1, .inr (.inl fun j => L id (j : Int)))
  else if S.1 = 10 ∨ S.1 = 12 then .inl (g.2.2.2 S.1, S.2.1, .inl fun j => nZ (I id (j : Int)))
  else .inl (g.2.2.2 S.1, S.2.1, .inr (.inr (.inr (.inr fun j => (S.2.2 j).map (ad g)))))
def wsOf (g : GB) (X : LY) (I : IM) (L : LM) : va_W := (List.range X.1).map fun i => (ad g i, ent g (X.2 i) I L i)
def tysOf (g : GB) : List (ClassId × FieldType) := [(g.2.2.2 10, .int), (g.2.2.2 11, .long), (g.2.2.2 12, .boolean), (g.2.2.2 13, .object "SwungShips$Harbour"), (g.2.2.2 14, .object "SwungShips$Image")]
