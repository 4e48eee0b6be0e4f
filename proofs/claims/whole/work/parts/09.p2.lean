/-! THE LAYOUT once both objects are made: 156 cells; nothing is made later. 0 SwungShips; 1 its Harbour (2 depths .. 7 ys); 8 History (9 its row, Harbours at 10 + 7 i); 122 Search (123 row, 124 chosen, 125 good, 126 bad, 127 free); 128 Book; 131 the images' row, images at 132 + 8 i, their Harbours at 133 + 8 i; 148 the reference (149 w, 150 keptSeed, 151 bookOf, 152 bookIs, 153 trial, 154 ships, 155 free) -/
def noR : Nat → Option Nat := fun _ => none
def rH (o : Nat) : Nat → Option Nat := fun k => if 6 ≤ k ∧ k < 12 then some (o + (k - 5)) else none
def r1 : Nat → Option Nat := fun k => if k = 11 then some 7 else if k = 10 then some 6 else if k = 9 then some 5 else if k = 8 then some 4 else if k = 7 then some 3 else if k = 6 then some 2 else none
def r0 : Nat → Option Nat := fun k => if k = 4 then some 131 else if k = 3 then some 128 else if k = 2 then some 122 else if k = 1 then some 8 else if k = 0 then some 1 else none
def r122 : Nat → Option Nat := fun k => if k = 6 then some 127 else if k = 5 then some 126 else if k = 4 then some 125 else if k = 1 then some 124 else if k = 0 then some 123 else none
def r148 : Nat → Option Nat := fun k => if k = 10 then some 155 else if k = 9 then some 154 else if k = 8 then some 153 else if k = 6 then some 152 else if k = 5 then some 151 else if k = 4 then some 150 else if k = 0 then some 149 else none
def shH (o k : Nat) : SH := if k = 0 then (1, 12, rH o) else if k = 1 then (10, 49, noR) else (10, 8, noR)
def sh2 (i : Nat) : SH :=
  if i = 1 then (1, 12, r1) else if i = 149 then (10, 1710, noR) else if i = 0 then (5, 6, r0) else if i = 148 then (6, 12, r148)
  else if i = 2 then (10, 49, noR) else if i < 8 then (10, 8, noR)
  else if i = 8 then (2, 3, fun k => if k = 0 then some 9 else none) else if i = 9 then (13, 16, fun k => if k < 16 then some (10 + 7 * k) else none)
  else if i < 122 then shH (10 + 7 * ((i - 10) / 7)) ((i - 10) % 7)
  else if i = 122 then (4, 7, r122) else if i < 125 then (10, 3, noR) else if i = 125 then (11, 8, noR) else if i = 126 then (11, 64, noR) else if i = 127 then (11, 9, noR)
  else if i = 128 then (0, 3, fun k => if k = 1 then some 130 else if k = 0 then some 129 else none) else if i < 131 then (10, 20, noR)
  else if i = 131 then (14, 2, fun k => if k < 2 then some (132 + 8 * k) else none)
  else if i < 148 then (if (i - 132) % 8 = 0 then (3, 3, fun k => if k = 0 then some (i + 1) else none) else shH (133 + 8 * ((i - 132) / 8)) ((i - 132) % 8 - 1))
  else if i = 150 then (10, 2, noR) else if i < 153 then (10, 20, noR) else if i < 155 then (10, 3, noR) else (12, 147, noR)
def X2 : LY := (156, sh2)
theorem O_0 : isO X2 0 5 6 := by unfold isO; decide +kernel
theorem O_1 : isO X2 1 1 12 := by unfold isO; decide +kernel
theorem O_8 : isO X2 8 2 3 := by unfold isO; decide +kernel
theorem O_122 : isO X2 122 4 7 := by unfold isO; decide +kernel
theorem O_128 : isO X2 128 0 3 := by unfold isO; decide +kernel
theorem O_148 : isO X2 148 6 12 := by unfold isO; decide +kernel
theorem A_2 : isA X2 2 10 49 := by unfold isA; decide +kernel
theorem A_3 : isA X2 3 10 8 := by unfold isA; decide +kernel
theorem A_4 : isA X2 4 10 8 := by unfold isA; decide +kernel
theorem A_5 : isA X2 5 10 8 := by unfold isA; decide +kernel
theorem A_6 : isA X2 6 10 8 := by unfold isA; decide +kernel
theorem A_7 : isA X2 7 10 8 := by unfold isA; decide +kernel
theorem A_9 : isA X2 9 13 16 := by unfold isA; decide +kernel
theorem A_123 : isA X2 123 10 3 := by unfold isA; decide +kernel
theorem A_124 : isA X2 124 10 3 := by unfold isA; decide +kernel
theorem A_125 : isA X2 125 11 8 := by unfold isA; decide +kernel
theorem A_126 : isA X2 126 11 64 := by unfold isA; decide +kernel
theorem A_127 : isA X2 127 11 9 := by unfold isA; decide +kernel
theorem A_129 : isA X2 129 10 20 := by unfold isA; decide +kernel
theorem A_130 : isA X2 130 10 20 := by unfold isA; decide +kernel
theorem A_131 : isA X2 131 14 2 := by unfold isA; decide +kernel
theorem A_149 : isA X2 149 10 1710 := by unfold isA; decide +kernel
theorem A_150 : isA X2 150 10 2 := by unfold isA; decide +kernel
theorem A_151 : isA X2 151 10 20 := by unfold isA; decide +kernel
theorem A_152 : isA X2 152 10 20 := by unfold isA; decide +kernel
theorem A_153 : isA X2 153 10 3 := by unfold isA; decide +kernel
theorem A_154 : isA X2 154 10 3 := by unfold isA; decide +kernel
theorem A_155 : isA X2 155 12 147 := by unfold isA; decide +kernel
/-- ends over that layout: any; an int / a long with the memory as it was; nothing, with a memory -/
def p2 (P : Option AV → IM → LM → Prop) : Option AV → LY → IM → LM → Prop := fun v X I L => X = X2 ∧ P v I L
def pI (z : Int) (I : IM) (L : LM) : Option AV → LY → IM → LM → Prop := p2 fun v I' L' => v = some (vi z) ∧ I' = I ∧ L' = L
def pL (z : Int64) (I : IM) (L : LM) : Option AV → LY → IM → LM → Prop := p2 fun v I' L' => v = some (vl z) ∧ I' = I ∧ L' = L
def pV (I : IM) (L : LM) : Option AV → LY → IM → LM → Prop := p2 fun v I' L' => v = none ∧ I' = I ∧ L' = L
section WK2
variable {xs : RO} {cx : CX} {d bc bs pc q : Nat} {lv lv' : List (Option AV)} {st st' : List AV} {I I1 : IM} {L L1 : LM} {post : Option AV → LY → IM → LM → Prop}
variable {y : MethodName} {cx' : CX} {n idx : Nat} {stk As : List AV} {lv0 : List (Option AV)} {P : Option AV → IM → LM → Prop} {z : Int} {w : Int64}
theorem p2X {P : Option AV → IM → LM → Prop} : ∀ v X' I' L', p2 P v X' I' L' → X'.1 = X2.1 + 0 := fun _ _ _ _ h => by obtain ⟨h, -⟩ := h; subst h; rfl
theorem w00 {X : LY} (h : Wk xs cx d (0 + 0) (0 + 0) pc lv st X I L post) : Wk xs cx d 0 0 pc lv st X I L post := h
/-- calls with any end -/
theorem Wk.cS (hL : LkS (cxO cx) idx y) (hM : MOK y cx' n) (hd : decode (cxC cx) pc = .ok (.invokestatic idx, 3)) (hs : ∀ K : List AV → List AV → Prop, K As st → splitK n [] stk K) (hwc : wcat st ≤ 8) (hn : (lentA As).length ≤ cxN cx') (hl : lent (cxN cx') As = lv0) (hc : Wk xs cx' d 0 0 0 lv0 [] X2 I L (p2 P)) (hq : pc + 3 = q) (kk : ∀ v I' L', P v I' L' → Wk xs cx (d + 1) 0 0 q lv (v.toList ++ st) X2 I' L' post) : Wk xs cx (d + 1) 0 0 pc lv stk X2 I L post :=
  w00 (Wk.callS hL hM hd hs hwc hn hl hc p2X hq (fun v X' I' L' h => by obtain ⟨rfl, h⟩ := h; exact kk v I' L' h))
theorem Wk.cN {host : String} (hL : LkN (cxO cx) idx y host) (hM : MOK y cx' n) (hd : decode (cxC cx) pc = .ok (.invokestatic idx, 3)) (hs : ∀ K : List AV → List AV → Prop, K As st → splitK n [] stk K) (hwc : wcat st ≤ 8) (hn : (lentA As).length ≤ cxN cx') (hl : lent (cxN cx') As = lv0) (hc : Wk xs cx' d 0 0 0 lv0 [] X2 I L (p2 P)) (hq : pc + 3 = q) (kk : ∀ v I' L', P v I' L' → Wk xs cx (d + 1) 0 0 q lv (v.toList ++ st) X2 I' L' post) : Wk xs cx (d + 1) 0 0 pc lv stk X2 I L post :=
  w00 (Wk.callN hL hM hd hs hwc hn hl hc p2X hq (fun v X' I' L' h => by obtain ⟨rfl, h⟩ := h; exact kk v I' L' h))
theorem Wk.cV {id ci nf : Nat} (hL : LkV (cxO cx) idx y) (hM : MOK y cx' n) (hd : decode (cxC cx) pc = .ok (.invokevirtual idx, 3)) (hs : ∀ K : List AV → List AV → Prop, K (vr id :: As) st → splitK (n + 1) [] stk K) (hO : isO X2 id ci nf) (hcl : cls0[ci]?.map (fun r => r.1) = some y.cls) (hwc : wcat st ≤ 8) (hn : (lentA (vr id :: As)).length ≤ cxN cx') (hl : lent (cxN cx') (vr id :: As) = lv0) (hc : Wk xs cx' d 0 0 0 lv0 [] X2 I L (p2 P)) (hq : pc + 3 = q) (kk : ∀ v I' L', P v I' L' → Wk xs cx (d + 1) 0 0 q lv (v.toList ++ st) X2 I' L' post) : Wk xs cx (d + 1) 0 0 pc lv stk X2 I L post :=
  w00 (Wk.callV hL hM hd hs hO hcl hwc hn hl hc p2X hq (fun v X' I' L' h => by obtain ⟨rfl, h⟩ := h; exact kk v I' L' h))
/-- calls that answer an int and leave the memory -/
theorem Wk.cSi (hL : LkS (cxO cx) idx y) (hM : MOK y cx' n) (hd : decode (cxC cx) pc = .ok (.invokestatic idx, 3)) (hs : ∀ K : List AV → List AV → Prop, K As st → splitK n [] stk K) (hwc : wcat st ≤ 8) (hn : (lentA As).length ≤ cxN cx') (hl : lent (cxN cx') As = lv0) (hc : Wk xs cx' d 0 0 0 lv0 [] X2 I L (pI z I L)) (hq : pc + 3 = q) (kk : Wk xs cx (d + 1) 0 0 q lv (vi z :: st) X2 I L post) : Wk xs cx (d + 1) 0 0 pc lv stk X2 I L post :=
  Wk.cS hL hM hd hs hwc hn hl hc hq (fun v I' L' h => by obtain ⟨rfl, rfl, rfl⟩ := h; exact kk)
theorem Wk.cNi {host : String} (hL : LkN (cxO cx) idx y host) (hM : MOK y cx' n) (hd : decode (cxC cx) pc = .ok (.invokestatic idx, 3)) (hs : ∀ K : List AV → List AV → Prop, K As st → splitK n [] stk K) (hwc : wcat st ≤ 8) (hn : (lentA As).length ≤ cxN cx') (hl : lent (cxN cx') As = lv0) (hc : Wk xs cx' d 0 0 0 lv0 [] X2 I L (pI z I L)) (hq : pc + 3 = q) (kk : Wk xs cx (d + 1) 0 0 q lv (vi z :: st) X2 I L post) : Wk xs cx (d + 1) 0 0 pc lv stk X2 I L post :=
  Wk.cN hL hM hd hs hwc hn hl hc hq (fun v I' L' h => by obtain ⟨rfl, rfl, rfl⟩ := h; exact kk)
theorem Wk.cVi {id ci nf : Nat} (hL : LkV (cxO cx) idx y) (hM : MOK y cx' n) (hd : decode (cxC cx) pc = .ok (.invokevirtual idx, 3)) (hs : ∀ K : List AV → List AV → Prop, K (vr id :: As) st → splitK (n + 1) [] stk K) (hO : isO X2 id ci nf) (hcl : cls0[ci]?.map (fun r => r.1) = some y.cls) (hwc : wcat st ≤ 8) (hn : (lentA (vr id :: As)).length ≤ cxN cx') (hl : lent (cxN cx') (vr id :: As) = lv0) (hc : Wk xs cx' d 0 0 0 lv0 [] X2 I L (pI z I L)) (hq : pc + 3 = q) (kk : Wk xs cx (d + 1) 0 0 q lv (vi z :: st) X2 I L post) : Wk xs cx (d + 1) 0 0 pc lv stk X2 I L post :=
  Wk.cV hL hM hd hs hO hcl hwc hn hl hc hq (fun v I' L' h => by obtain ⟨rfl, rfl, rfl⟩ := h; exact kk)
/-- the same with a long -/
theorem Wk.cSl (hL : LkS (cxO cx) idx y) (hM : MOK y cx' n) (hd : decode (cxC cx) pc = .ok (.invokestatic idx, 3)) (hs : ∀ K : List AV → List AV → Prop, K As st → splitK n [] stk K) (hwc : wcat st ≤ 8) (hn : (lentA As).length ≤ cxN cx') (hl : lent (cxN cx') As = lv0) (hc : Wk xs cx' d 0 0 0 lv0 [] X2 I L (pL w I L)) (hq : pc + 3 = q) (kk : Wk xs cx (d + 1) 0 0 q lv (vl w :: st) X2 I L post) : Wk xs cx (d + 1) 0 0 pc lv stk X2 I L post :=
  Wk.cS hL hM hd hs hwc hn hl hc hq (fun v I' L' h => by obtain ⟨rfl, rfl, rfl⟩ := h; exact kk)
theorem Wk.cVl {id ci nf : Nat} (hL : LkV (cxO cx) idx y) (hM : MOK y cx' n) (hd : decode (cxC cx) pc = .ok (.invokevirtual idx, 3)) (hs : ∀ K : List AV → List AV → Prop, K (vr id :: As) st → splitK (n + 1) [] stk K) (hO : isO X2 id ci nf) (hcl : cls0[ci]?.map (fun r => r.1) = some y.cls) (hwc : wcat st ≤ 8) (hn : (lentA (vr id :: As)).length ≤ cxN cx') (hl : lent (cxN cx') (vr id :: As) = lv0) (hc : Wk xs cx' d 0 0 0 lv0 [] X2 I L (pL w I L)) (hq : pc + 3 = q) (kk : Wk xs cx (d + 1) 0 0 q lv (vl w :: st) X2 I L post) : Wk xs cx (d + 1) 0 0 pc lv stk X2 I L post :=
  Wk.cV hL hM hd hs hO hcl hwc hn hl hc hq (fun v I' L' h => by obtain ⟨rfl, rfl, rfl⟩ := h; exact kk)
/-- calls that answer nothing and leave a memory -/
theorem Wk.cVv {id ci nf : Nat} (hL : LkV (cxO cx) idx y) (hM : MOK y cx' n) (hd : decode (cxC cx) pc = .ok (.invokevirtual idx, 3)) (hs : ∀ K : List AV → List AV → Prop, K (vr id :: As) st → splitK (n + 1) [] stk K) (hO : isO X2 id ci nf) (hcl : cls0[ci]?.map (fun r => r.1) = some y.cls) (hwc : wcat st ≤ 8) (hn : (lentA (vr id :: As)).length ≤ cxN cx') (hl : lent (cxN cx') (vr id :: As) = lv0) (hc : Wk xs cx' d 0 0 0 lv0 [] X2 I L (pV I1 L1)) (hq : pc + 3 = q) (kk : Wk xs cx (d + 1) 0 0 q lv st X2 I1 L1 post) : Wk xs cx (d + 1) 0 0 pc lv stk X2 I L post :=
  Wk.cV hL hM hd hs hO hcl hwc hn hl hc hq (fun v I' L' h => by obtain ⟨rfl, rfl, rfl⟩ := h; exact kk)
/-- returns -/
theorem Wk.rI {v : Int} (hd : decode (cxC cx) pc = .ok (.ireturn, 1)) (hr : cxR cx = some .int) (h : v = z) : Wk xs cx d bc bs pc lv [vi v] X2 I L (pI z I L) := Wk.iret hd hr ⟨rfl, by rw [h], rfl, rfl⟩
theorem Wk.rZ {v : Int} (hd : decode (cxC cx) pc = .ok (.ireturn, 1)) (hr : cxR cx = some .boolean) (hv : v = 0 ∨ v = 1) (h : v = z) : Wk xs cx d bc bs pc lv [vi v] X2 I L (pI z I L) := Wk.zret hd hr hv ⟨rfl, by rw [h], rfl, rfl⟩
theorem Wk.rL {v : Int64} (hd : decode (cxC cx) pc = .ok (.lreturn, 1)) (hr : cxR cx = some .long) (h : v = w) : Wk xs cx d bc bs pc lv [vl v] X2 I L (pL w I L) := Wk.lret hd hr ⟨rfl, by rw [h], rfl, rfl⟩
theorem Wk.rV (hd : decode (cxC cx) pc = .ok (.return_, 1)) (hr : cxR cx = none) (hI : I = I1) (hL : L = L1) : Wk xs cx d bc bs pc lv [] X2 I L (pV I1 L1) := Wk.vret hd hr ⟨rfl, rfl, hI, hL⟩
theorem Wk.riP (hd : decode (cxC cx) pc = .ok (.ireturn, 1)) (hr : cxR cx = some .int) (h : P (some (vi z)) I L) : Wk xs cx d bc bs pc lv [vi z] X2 I L (p2 P) := Wk.iret hd hr ⟨rfl, h⟩
theorem Wk.rzP (hd : decode (cxC cx) pc = .ok (.ireturn, 1)) (hr : cxR cx = some .boolean) (hv : z = 0 ∨ z = 1) (h : P (some (vi z)) I L) : Wk xs cx d bc bs pc lv [vi z] X2 I L (p2 P) := Wk.zret hd hr hv ⟨rfl, h⟩
theorem Wk.rlP (hd : decode (cxC cx) pc = .ok (.lreturn, 1)) (hr : cxR cx = some .long) (h : P (some (vl w)) I L) : Wk xs cx d bc bs pc lv [vl w] X2 I L (p2 P) := Wk.lret hd hr ⟨rfl, h⟩
theorem Wk.rvP (hd : decode (cxC cx) pc = .ok (.return_, 1)) (hr : cxR cx = none) (h : P none I L) : Wk xs cx d bc bs pc lv [] X2 I L (p2 P) := Wk.vret hd hr ⟨rfl, h⟩
end WK2
/-- a counted loop: from k0 on, at its head, to e -/
theorem loopI (V : Int → Prop) (e k0 : Int) (h0 : k0 ≤ e) (he : V e) (hs : ∀ k, k0 ≤ k → k < e → V (k + 1) → V k) : V k0 := by
  have key : ∀ (n : Nat) (k : Int), k0 ≤ k → k + n = e → V k := by
    intro n
    induction n with
    | zero => intro k _ h; have : k = e := by omega
              rw [this]; exact he
    | succ n ih => intro k h1 h2; exact hs k h1 (by omega) (ih (k + 1) (by omega) (by omega))
  exact key (e - k0).toNat k0 (Int.le_refl _) (by omega)
/-- a counted loop with a state of its own -/
theorem loopS {σ : Type} (V : Int → σ → Prop) (J : Int → σ → Prop) (e k0 : Int) (s0 : σ) (h0 : k0 ≤ e) (hJ : J k0 s0) (he : ∀ s, J e s → V e s) (hs : ∀ k s, k0 ≤ k → k < e → J k s → (∀ s', J (k + 1) s' → V (k + 1) s') → V k s) : V k0 s0 := by
  have key : ∀ (n : Nat) (k : Int) (s : σ), k0 ≤ k → k + n = e → J k s → V k s := by
    intro n
    induction n with
    | zero => intro k s _ h hj; have : k = e := by omega
              subst this; exact he s hj
    | succ n ih => intro k s h1 h2 hj; exact hs k s h1 (by omega) hj (fun s' hj' => ih (k + 1) s' (by omega) (by omega) hj')
  exact key (e - k0).toNat k0 s0 (Int.le_refl _) (by omega) hJ
