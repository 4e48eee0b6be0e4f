/-! Wk's rows for locals, arithmetic, branches -/
def lget : List (Option AV) → Nat → Option AV
  | [], _ => none
  | v :: _, 0 => v
  | _ :: r, k + 1 => lget r k
def lset : List (Option AV) → Nat → Option AV → List (Option AV)
  | [], _, _ => []
  | _ :: r, 0, v => v :: r
  | w :: r, k + 1, v => w :: lset r k v
/-- the same, told to whoever asks: so that a row computes the list -/
def lsetK : List (Option AV) → Nat → Option AV → (List (Option AV) → Prop) → Prop
  | [], _, _, K => K []
  | _ :: r, 0, v, K => K (v :: r)
  | w :: r, k + 1, v, K => lsetK r k v (fun r' => K (w :: r'))
theorem lsetK_eq : ∀ (lv : List (Option AV)) (k : Nat) (v : Option AV) (K : List (Option AV) → Prop), lsetK lv k v K → K (lset lv k v)
  | [], _, _, _, h => h
  | _ :: _, 0, _, _, h => h
  | _ :: r, k + 1, v, _, h => lsetK_eq r k v _ h
theorem lset_of {lv lv' : List (Option AV)} {k : Nat} {v : Option AV} (h : ∀ K : List (Option AV) → Prop, K lv' → lsetK lv k v K) : lset lv k v = lv' := lsetK_eq lv k v (fun r => r = lv') (h _ rfl)
def notLong : Option AV → Bool
  | some (.inr (.inl _)) => false
  | _ => true
def okS (lv : List (Option AV)) : Nat → Bool
  | 0 => true
  | i + 1 => notLong (lget lv i)
theorem lget_eq : ∀ {lv : List (Option AV)} {k : Nat} {v : AV}, lget lv k = some v → lv[k]? = some (some v)
  | [], _, _, h => by simp [lget] at h
  | w :: _, 0, v, h => by simp only [lget] at h; simp [h]
  | _ :: r, k + 1, v, h => by simp only [lget] at h; simpa using lget_eq h
theorem lget_of : ∀ {lv : List (Option AV)} {k : Nat} {v : AV}, lv[k]? = some (some v) → lget lv k = some v
  | [], _, _, h => by simp at h
  | w :: _, 0, v, h => by simpa [lget] using h
  | _ :: r, k + 1, v, h => by simp only [lget]; exact lget_of (by simpa using h)
theorem lset_get : ∀ {lv : List (Option AV)} {i k : Nat} {v w : Option AV}, (lset lv i v)[k]? = some w → (k = i ∧ w = v) ∨ (k ≠ i ∧ lv[k]? = some w)
  | [], i, k, v, w, h => by simp [lset] at h
  | a :: r, 0, 0, v, w, h => by simp [lset] at h; exact Or.inl ⟨rfl, h.symm⟩
  | a :: r, 0, k + 1, v, w, h => by simp [lset] at h; exact Or.inr ⟨by omega, by simpa using h⟩
  | a :: r, i + 1, 0, v, w, h => by simp [lset] at h; exact Or.inr ⟨by omega, by simpa using h⟩
  | a :: r, i + 1, k + 1, v, w, h => by
    simp only [lset, List.getElem?_cons_succ] at h
    rcases lset_get h with ⟨rfl, h2⟩ | ⟨h1, h2⟩
    · exact Or.inl ⟨rfl, h2⟩
    · exact Or.inr ⟨by omega, by simpa using h2⟩
theorem cv_cat {g : GB} {v : AV} (h : notLong (some v) = true) : ¬ (cv g v).category = 2 := by
  rcases v with z | x | r
  · simp [cv, Value.category]
  · simp [notLong] at h
  · rcases r with _ | r <;> simp [cv, va_rf, Value.category]
theorem lv_get {g : GB} {ls : Array Slot} {n : Nat} {lv : List (Option AV)} {k : Nat} {v : AV} (hl : lv_has ls n (lvc g 0 lv)) (h : lget lv k = some v) : ls[k]? = some (.val (cv g v)) :=
  hl.2.2 (k, cv g v) (lvc_mem.mpr ⟨k, v, lget_eq h, by simp⟩)
theorem lv_put1 {g : GB} {ls : Array Slot} {n : Nat} {lv : List (Option AV)} {i : Nat} {v : AV} (ho : okS lv i = true) (hl : lv_has ls n ((i, cv g v) :: (lvc g 0 lv).filter (fun q => !(q.1 == i) && !(q.1 + 1 == i && q.2.category == 2)))) : lv_has ls n (lvc g 0 (lset lv i (some v))) := by
  refine ⟨hl.1, hl.2.1, fun q hq => hl.2.2 q ?_⟩
  obtain ⟨k, w, hk, rfl⟩ := lvc_mem.mp hq
  rcases lset_get hk with ⟨rfl, h2⟩ | ⟨h1, h2⟩
  · cases h2
    simp
  · refine List.mem_cons_of_mem _ (List.mem_filter.mpr ⟨lvc_mem.mpr ⟨k, w, h2, rfl⟩, ?_⟩)
    cases i with
    | zero => simp; omega
    | succ i =>
      simp only [okS] at ho
      have hki : ¬ k = i + 1 := h1
      by_cases hk1 : k = i
      · subst hk1
        rw [lget_of h2] at ho
        have := cv_cat (g := g) ho
        simp [this]
      · simp; omega
theorem lv_put2 {g : GB} {ls : Array Slot} {n : Nat} {lv : List (Option AV)} {i : Nat} {v : AV} (ho : okS lv i = true) (hl : lv_has ls n ((i, cv g v) :: (lvc g 0 lv).filter (fun q => !(q.1 == i) && (!(q.1 == i + 1) && !(q.1 + 1 == i && q.2.category == 2))))) : lv_has ls n (lvc g 0 (lset (lset lv i (some v)) (i + 1) none)) := by
  refine ⟨hl.1, hl.2.1, fun q hq => hl.2.2 q ?_⟩
  obtain ⟨k, w, hk, rfl⟩ := lvc_mem.mp hq
  rcases lset_get hk with ⟨rfl, h2⟩ | ⟨h0, h2⟩
  · cases h2
  rcases lset_get h2 with ⟨rfl, h3⟩ | ⟨h1, h3⟩
  · cases h3
    simp
  · refine List.mem_cons_of_mem _ (List.mem_filter.mpr ⟨lvc_mem.mpr ⟨k, w, h3, rfl⟩, ?_⟩)
    cases i with
    | zero => simp; omega
    | succ i =>
      simp only [okS] at ho
      by_cases hk1 : k = i
      · subst hk1
        rw [lget_of h3] at ho
        have := cv_cat (g := g) ho
        simp [this]; omega
      · simp; omega
section WKL
variable {xs : RO} {cx : CX} {d bc bs pc q : Nat} {lv lv' : List (Option AV)} {st st' : List AV} {X : LY} {I : IM} {L : LM} {post : Option AV → LY → IM → LM → Prop}
theorem Wk.iload_n {k : Fin 4} {i : Nat} {z : Int} (hd : decode (cxC cx) pc = .ok (.iload_n k, 1)) (hi : (k : Nat) = i) (hg : lget lv i = some (vi z)) (hq : pc + 1 = q) (k : Wk xs cx d bc bs q lv (vi z :: st) X I L post) : Wk xs cx d bc bs pc lv (st) X I L post := by
  subst hq
  exact Wk.go1 (fun _ g _ _ _ _ _ _ _ _ _ _ _ _ _ _ ls hF _ _ _ hl k => lv_iload_n hF.1 hF.2.1 hd hi (lv_get hl hg) k) k
theorem Wk.iload {i : Nat} {z : Int} (hd : decode (cxC cx) pc = .ok (.iload i, 2)) (hg : lget lv i = some (vi z)) (hq : pc + 2 = q) (k : Wk xs cx d bc bs q lv (vi z :: st) X I L post) : Wk xs cx d bc bs pc lv (st) X I L post := by
  subst hq
  exact Wk.go1 (fun _ g _ _ _ _ _ _ _ _ _ _ _ _ _ _ ls hF _ _ _ hl k => lv_iload hF.1 hF.2.1 hd (lv_get hl hg) k) k
theorem Wk.lload_n {k : Fin 4} {i : Nat} {z : Int64} (hd : decode (cxC cx) pc = .ok (.lload_n k, 1)) (hi : (k : Nat) = i) (hg : lget lv i = some (vl z)) (hq : pc + 1 = q) (k : Wk xs cx d bc bs q lv (vl z :: st) X I L post) : Wk xs cx d bc bs pc lv (st) X I L post := by
  subst hq
  exact Wk.go1 (fun _ g _ _ _ _ _ _ _ _ _ _ _ _ _ _ ls hF _ _ _ hl k => lv_lload_n hF.1 hF.2.1 hd hi (lv_get hl hg) k) k
theorem Wk.lload {i : Nat} {z : Int64} (hd : decode (cxC cx) pc = .ok (.lload i, 2)) (hg : lget lv i = some (vl z)) (hq : pc + 2 = q) (k : Wk xs cx d bc bs q lv (vl z :: st) X I L post) : Wk xs cx d bc bs pc lv (st) X I L post := by
  subst hq
  exact Wk.go1 (fun _ g _ _ _ _ _ _ _ _ _ _ _ _ _ _ ls hF _ _ _ hl k => lv_lload hF.1 hF.2.1 hd (lv_get hl hg) k) k
theorem Wk.aload_n {k : Fin 4} {i : Nat} {z : Nat} (hd : decode (cxC cx) pc = .ok (.aload_n k, 1)) (hi : (k : Nat) = i) (hg : lget lv i = some (vr z)) (hq : pc + 1 = q) (k : Wk xs cx d bc bs q lv (vr z :: st) X I L post) : Wk xs cx d bc bs pc lv (st) X I L post := by
  subst hq
  exact Wk.go1 (fun _ g _ _ _ _ _ _ _ _ _ _ _ _ _ _ ls hF _ _ _ hl k => lv_aload_n hF.1 hF.2.1 hd hi (lv_get hl hg) k) k
theorem Wk.aload {i : Nat} {z : Nat} (hd : decode (cxC cx) pc = .ok (.aload i, 2)) (hg : lget lv i = some (vr z)) (hq : pc + 2 = q) (k : Wk xs cx d bc bs q lv (vr z :: st) X I L post) : Wk xs cx d bc bs pc lv (st) X I L post := by
  subst hq
  exact Wk.go1 (fun _ g _ _ _ _ _ _ _ _ _ _ _ _ _ _ ls hF _ _ _ hl k => lv_aload hF.1 hF.2.1 hd (lv_get hl hg) k) k
theorem Wk.istore_n {k : Fin 4} {i : Nat} {z : Int} (hd : decode (cxC cx) pc = .ok (.istore_n k, 1)) (hi : (k : Nat) = i) (hn : i < cxN cx) (ho : okS lv i = true) (hs : ∀ K : List (Option AV) → Prop, K lv' → lsetK lv i (some (vi z)) K) (hq : pc + 1 = q) (k : Wk xs cx d bc bs q lv' (st) X I L post) : Wk xs cx d bc bs pc lv (vi z :: st) X I L post := by
  subst hq
  exact Wk.go (fun _ g _ _ _ _ _ _ _ _ _ _ _ _ _ _ ls hF _ _ _ hl k => lv_istore_n hF.1 hF.2.1 hd hi hl hn rfl (fun ls' hl' => k ls' (lset_of hs ▸ lv_put1 ho hl'))) k
theorem Wk.istore {i : Nat} {z : Int} (hd : decode (cxC cx) pc = .ok (.istore i, 2)) (hn : i < cxN cx) (ho : okS lv i = true) (hs : ∀ K : List (Option AV) → Prop, K lv' → lsetK lv i (some (vi z)) K) (hq : pc + 2 = q) (k : Wk xs cx d bc bs q lv' (st) X I L post) : Wk xs cx d bc bs pc lv (vi z :: st) X I L post := by
  subst hq
  exact Wk.go (fun _ g _ _ _ _ _ _ _ _ _ _ _ _ _ _ ls hF _ _ _ hl k => lv_istore hF.1 hF.2.1 hd hl hn rfl (fun ls' hl' => k ls' (lset_of hs ▸ lv_put1 ho hl'))) k
theorem Wk.astore_n {k : Fin 4} {i : Nat} {z : Nat} (hd : decode (cxC cx) pc = .ok (.astore_n k, 1)) (hi : (k : Nat) = i) (hn : i < cxN cx) (ho : okS lv i = true) (hs : ∀ K : List (Option AV) → Prop, K lv' → lsetK lv i (some (vr z)) K) (hq : pc + 1 = q) (k : Wk xs cx d bc bs q lv' (st) X I L post) : Wk xs cx d bc bs pc lv (vr z :: st) X I L post := by
  subst hq
  exact Wk.go (fun _ g _ _ _ _ _ _ _ _ _ _ _ _ _ _ ls hF _ _ _ hl k => lv_astore_n hF.1 hF.2.1 hd hi hl hn rfl (fun ls' hl' => k ls' (lset_of hs ▸ lv_put1 ho hl'))) k
theorem Wk.astore {i : Nat} {z : Nat} (hd : decode (cxC cx) pc = .ok (.astore i, 2)) (hn : i < cxN cx) (ho : okS lv i = true) (hs : ∀ K : List (Option AV) → Prop, K lv' → lsetK lv i (some (vr z)) K) (hq : pc + 2 = q) (k : Wk xs cx d bc bs q lv' (st) X I L post) : Wk xs cx d bc bs pc lv (vr z :: st) X I L post := by
  subst hq
  exact Wk.go (fun _ g _ _ _ _ _ _ _ _ _ _ _ _ _ _ ls hF _ _ _ hl k => lv_astore hF.1 hF.2.1 hd hl hn rfl (fun ls' hl' => k ls' (lset_of hs ▸ lv_put1 ho hl'))) k
theorem lset2_of {lv lv' : List (Option AV)} {i : Nat} {v : Option AV} (h : ∀ K : List (Option AV) → Prop, K lv' → lsetK lv i v (fun r => lsetK r (i + 1) none K)) : lset (lset lv i v) (i + 1) none = lv' :=
  lsetK_eq _ _ _ (fun r => r = lv') (lsetK_eq lv i v (fun r => lsetK r (i + 1) none (fun r => r = lv')) (h _ rfl))
theorem Wk.lstore_n {k : Fin 4} {i : Nat} {z : Int64} (hd : decode (cxC cx) pc = .ok (.lstore_n k, 1)) (hi : (k : Nat) = i) (hn : i + 1 < cxN cx) (ho : okS lv i = true) (hs : ∀ K : List (Option AV) → Prop, K lv' → lsetK lv i (some (vl z)) (fun r => lsetK r (i + 1) none K)) (hq : pc + 1 = q) (k : Wk xs cx d bc bs q lv' (st) X I L post) : Wk xs cx d bc bs pc lv (vl z :: st) X I L post := by
  subst hq
  exact Wk.go (fun _ g _ _ _ _ _ _ _ _ _ _ _ _ _ _ ls hF _ _ _ hl k => lv_lstore_n hF.1 hF.2.1 hd hi hl hn rfl (fun ls' hl' => k ls' (lset2_of hs ▸ lv_put2 ho hl'))) k
theorem Wk.lstore {i : Nat} {z : Int64} (hd : decode (cxC cx) pc = .ok (.lstore i, 2)) (hn : i + 1 < cxN cx) (ho : okS lv i = true) (hs : ∀ K : List (Option AV) → Prop, K lv' → lsetK lv i (some (vl z)) (fun r => lsetK r (i + 1) none K)) (hq : pc + 2 = q) (k : Wk xs cx d bc bs q lv' (st) X I L post) : Wk xs cx d bc bs pc lv (vl z :: st) X I L post := by
  subst hq
  exact Wk.go (fun _ g _ _ _ _ _ _ _ _ _ _ _ _ _ _ ls hF _ _ _ hl k => lv_lstore hF.1 hF.2.1 hd hl hn rfl (fun ls' hl' => k ls' (lset2_of hs ▸ lv_put2 ho hl'))) k
theorem Wk.iinc {i : Nat} {n z : Int} (hd : decode (cxC cx) pc = .ok (.iinc i n, 3)) (hg : lget lv i = some (vi z)) (hn : i < cxN cx) (ho : okS lv i = true) (hs : ∀ K : List (Option AV) → Prop, K lv' → lsetK lv i (some (vi (z + n))) K) (hq : pc + 3 = q) (k : Wk xs cx d bc bs q lv' st X I L post) : Wk xs cx d bc bs pc lv st X I L post := by
  subst hq
  refine Wk.go (fun _ g _ _ _ _ _ _ _ _ _ _ _ _ _ _ ls hF _ _ _ hl k => ?_) k
  have hm : (i, cv g (vi z)) ∈ lvc g 0 lv := lvc_mem.mpr ⟨i, vi z, lget_eq hg, by simp⟩
  obtain ⟨j, hj⟩ := List.getElem?_of_mem hm
  exact lv_iinc (v := nZ (z + n)) hF.1 hF.2.1 hd hl hj (nZ_add z n).symm hn rfl (fun ls' hl' => k ls' (lset_of hs ▸ lv_put1 (v := vi (z + n)) ho hl'))
theorem Wk.iadd {a b : Int} (hd : decode (cxC cx) pc = .ok (.iadd, 1)) (hq : pc + 1 = q) (k : Wk xs cx d bc bs q lv (vi (a + b) :: st) X I L post) : Wk xs cx d bc bs pc lv (vi b :: vi a :: st) X I L post := by
  subst hq
  exact Wk.go1 (fun _ g _ _ _ _ _ _ _ _ _ _ _ _ _ _ ls hF _ _ _ hl k => lv_iadd hF.1 hF.2.1 hd (by have k2 := k; simp only [List.map, cv, vi, nZ_add] at k2; exact k2)) k
theorem Wk.isub {a b : Int} (hd : decode (cxC cx) pc = .ok (.isub, 1)) (hq : pc + 1 = q) (k : Wk xs cx d bc bs q lv (vi (a - b) :: st) X I L post) : Wk xs cx d bc bs pc lv (vi b :: vi a :: st) X I L post := by
  subst hq
  exact Wk.go1 (fun _ g _ _ _ _ _ _ _ _ _ _ _ _ _ _ ls hF _ _ _ hl k => lv_isub hF.1 hF.2.1 hd (by have k2 := k; simp only [List.map, cv, vi, nZ_sub] at k2; exact k2)) k
theorem Wk.imul {a b : Int} (hd : decode (cxC cx) pc = .ok (.imul, 1)) (hq : pc + 1 = q) (k : Wk xs cx d bc bs q lv (vi (a * b) :: st) X I L post) : Wk xs cx d bc bs pc lv (vi b :: vi a :: st) X I L post := by
  subst hq
  exact Wk.go1 (fun _ g _ _ _ _ _ _ _ _ _ _ _ _ _ _ ls hF _ _ _ hl k => lv_imul hF.1 hF.2.1 hd (by have k2 := k; simp only [List.map, cv, vi, nZ_mul] at k2; exact k2)) k
theorem Wk.ineg {a : Int} (hd : decode (cxC cx) pc = .ok (.ineg, 1)) (hq : pc + 1 = q) (k : Wk xs cx d bc bs q lv (vi (-a) :: st) X I L post) : Wk xs cx d bc bs pc lv (vi a :: st) X I L post := by
  subst hq
  exact Wk.go1 (fun _ g _ _ _ _ _ _ _ _ _ _ _ _ _ _ ls hF _ _ _ hl k => lv_ineg hF.1 hF.2.1 hd (by have k2 := k; simp only [List.map, cv, vi, nZ_neg] at k2; exact k2)) k
theorem nZ_div {a b : Int} (ha : 0 ≤ a ∧ a ≤ 2147483647) (hb : 0 < b ∧ b ≤ 2147483647) : nZ (a / b) = nZ a / nZ b := by
  rw [← Int.tdiv_eq_ediv_of_nonneg ha.1]
  have e1 : Int32.minValue.toInt = -2147483648 := by decide
  have e2 : Int32.maxValue.toInt = 2147483647 := by decide
  exact Int32.ofInt_tdiv (by rw [e1]; omega) (by rw [e2]; omega) (by rw [e1]; omega) (by rw [e2]; omega)
theorem nZ_rem {a b : Int} (ha : 0 ≤ a ∧ a ≤ 2147483647) (hb : 0 < b ∧ b ≤ 2147483647) : nZ (a % b) = nZ a - nZ a / nZ b * nZ b := by
  rw [Int.emod_def, nZ_sub, Int.mul_comm, nZ_mul, nZ_div ha hb]
theorem nZ_ne0 {b : Int} (hb : 0 < b ∧ b ≤ 2147483647) : ¬ nZ b = 0 := by
  intro h
  rw [← nZ_0, nZ_eq (by omega) (by omega)] at h
  omega
theorem Wk.idiv {a b : Int} (hd : decode (cxC cx) pc = .ok (.idiv, 1)) (ha : 0 ≤ a ∧ a ≤ 2147483647) (hb : 0 < b ∧ b ≤ 2147483647) (hq : pc + 1 = q) (k : Wk xs cx d bc bs q lv (vi (a / b) :: st) X I L post) : Wk xs cx d bc bs pc lv (vi b :: vi a :: st) X I L post := by
  subst hq
  exact Wk.go1 (fun _ g _ _ _ _ _ _ _ _ _ _ _ _ _ _ ls hF _ _ _ hl k => lv_idiv hF.1 hF.2.1 hd (nZ_ne0 hb) (by have k2 := k; simp only [List.map, cv, vi, nZ_div ha hb] at k2; exact k2)) k
theorem Wk.irem {a b : Int} (hd : decode (cxC cx) pc = .ok (.irem, 1)) (ha : 0 ≤ a ∧ a ≤ 2147483647) (hb : 0 < b ∧ b ≤ 2147483647) (hq : pc + 1 = q) (k : Wk xs cx d bc bs q lv (vi (a % b) :: st) X I L post) : Wk xs cx d bc bs pc lv (vi b :: vi a :: st) X I L post := by
  subst hq
  exact Wk.go1 (fun _ g _ _ _ _ _ _ _ _ _ _ _ _ _ _ ls hF _ _ _ hl k => lv_irem hF.1 hF.2.1 hd (nZ_ne0 hb) (by have k2 := k; simp only [List.map, cv, vi, nZ_rem ha hb] at k2; exact k2)) k
theorem Wk.iand {a b : Int} (hd : decode (cxC cx) pc = .ok (.iand, 1)) (hq : pc + 1 = q) (k : Wk xs cx d bc bs q lv (vi (nZ a &&& nZ b).toInt :: st) X I L post) : Wk xs cx d bc bs pc lv (vi b :: vi a :: st) X I L post := by
  subst hq
  exact Wk.go1 (fun _ g _ _ _ _ _ _ _ _ _ _ _ _ _ _ ls hF _ _ _ hl k => lv_iand hF.1 hF.2.1 hd (by have k2 := k; simp only [List.map, cv, vi, nZ_self] at k2; exact k2)) k
theorem Wk.ior {a b : Int} (hd : decode (cxC cx) pc = .ok (.ior, 1)) (hq : pc + 1 = q) (k : Wk xs cx d bc bs q lv (vi (nZ a ||| nZ b).toInt :: st) X I L post) : Wk xs cx d bc bs pc lv (vi b :: vi a :: st) X I L post := by
  subst hq
  exact Wk.go1 (fun _ g _ _ _ _ _ _ _ _ _ _ _ _ _ _ ls hF _ _ _ hl k => lv_ior hF.1 hF.2.1 hd (by have k2 := k; simp only [List.map, cv, vi, nZ_self] at k2; exact k2)) k
theorem Wk.ixor {a b : Int} (hd : decode (cxC cx) pc = .ok (.ixor, 1)) (hq : pc + 1 = q) (k : Wk xs cx d bc bs q lv (vi (nZ a ^^^ nZ b).toInt :: st) X I L post) : Wk xs cx d bc bs pc lv (vi b :: vi a :: st) X I L post := by
  subst hq
  exact Wk.go1 (fun _ g _ _ _ _ _ _ _ _ _ _ _ _ _ _ ls hF _ _ _ hl k => lv_ixor hF.1 hF.2.1 hd (by have k2 := k; simp only [List.map, cv, vi, nZ_self] at k2; exact k2)) k
theorem Wk.ishl {a b : Int} (hd : decode (cxC cx) pc = .ok (.ishl, 1)) (hq : pc + 1 = q) (k : Wk xs cx d bc bs q lv (vi (nZ a <<< (nZ b &&& 31)).toInt :: st) X I L post) : Wk xs cx d bc bs pc lv (vi b :: vi a :: st) X I L post := by
  subst hq
  exact Wk.go1 (fun _ g _ _ _ _ _ _ _ _ _ _ _ _ _ _ ls hF _ _ _ hl k => lv_ishl hF.1 hF.2.1 hd (by have k2 := k; simp only [List.map, cv, vi, nZ_self] at k2; exact k2)) k
theorem Wk.ishr {a b : Int} (hd : decode (cxC cx) pc = .ok (.ishr, 1)) (hq : pc + 1 = q) (k : Wk xs cx d bc bs q lv (vi (nZ a >>> (nZ b &&& 31)).toInt :: st) X I L post) : Wk xs cx d bc bs pc lv (vi b :: vi a :: st) X I L post := by
  subst hq
  exact Wk.go1 (fun _ g _ _ _ _ _ _ _ _ _ _ _ _ _ _ ls hF _ _ _ hl k => lv_ishr hF.1 hF.2.1 hd (by have k2 := k; simp only [List.map, cv, vi, nZ_self] at k2; exact k2)) k
theorem Wk.iushr {a b : Int} (hd : decode (cxC cx) pc = .ok (.iushr, 1)) (hq : pc + 1 = q) (k : Wk xs cx d bc bs q lv (vi ((nZ a).toUInt32 >>> ((nZ b).toUInt32 &&& Int32.toUInt32 31)).toInt32.toInt :: st) X I L post) : Wk xs cx d bc bs pc lv (vi b :: vi a :: st) X I L post := by
  subst hq
  exact Wk.go1 (fun _ g _ _ _ _ _ _ _ _ _ _ _ _ _ _ ls hF _ _ _ hl k => lv_iushr hF.1 hF.2.1 hd rfl (by have k2 := k; simp only [List.map, cv, vi, nZ_self] at k2; exact k2)) k
theorem Wk.ladd {a b : Int64} (hd : decode (cxC cx) pc = .ok (.ladd, 1)) (hq : pc + 1 = q) (k : Wk xs cx d bc bs q lv (vl (a + b) :: st) X I L post) : Wk xs cx d bc bs pc lv (vl b :: vl a :: st) X I L post := by
  subst hq
  exact Wk.go1 (fun _ g _ _ _ _ _ _ _ _ _ _ _ _ _ _ ls hF _ _ _ hl k => lv_ladd hF.1 hF.2.1 hd k) k
theorem Wk.lsub {a b : Int64} (hd : decode (cxC cx) pc = .ok (.lsub, 1)) (hq : pc + 1 = q) (k : Wk xs cx d bc bs q lv (vl (a - b) :: st) X I L post) : Wk xs cx d bc bs pc lv (vl b :: vl a :: st) X I L post := by
  subst hq
  exact Wk.go1 (fun _ g _ _ _ _ _ _ _ _ _ _ _ _ _ _ ls hF _ _ _ hl k => lv_lsub hF.1 hF.2.1 hd k) k
theorem Wk.lmul {a b : Int64} (hd : decode (cxC cx) pc = .ok (.lmul, 1)) (hq : pc + 1 = q) (k : Wk xs cx d bc bs q lv (vl (a * b) :: st) X I L post) : Wk xs cx d bc bs pc lv (vl b :: vl a :: st) X I L post := by
  subst hq
  exact Wk.go1 (fun _ g _ _ _ _ _ _ _ _ _ _ _ _ _ _ ls hF _ _ _ hl k => lv_lmul hF.1 hF.2.1 hd k) k
theorem Wk.land {a b : Int64} (hd : decode (cxC cx) pc = .ok (.land, 1)) (hq : pc + 1 = q) (k : Wk xs cx d bc bs q lv (vl (a &&& b) :: st) X I L post) : Wk xs cx d bc bs pc lv (vl b :: vl a :: st) X I L post := by
  subst hq
  exact Wk.go1 (fun _ g _ _ _ _ _ _ _ _ _ _ _ _ _ _ ls hF _ _ _ hl k => lv_land hF.1 hF.2.1 hd k) k
theorem Wk.lor {a b : Int64} (hd : decode (cxC cx) pc = .ok (.lor, 1)) (hq : pc + 1 = q) (k : Wk xs cx d bc bs q lv (vl (a ||| b) :: st) X I L post) : Wk xs cx d bc bs pc lv (vl b :: vl a :: st) X I L post := by
  subst hq
  exact Wk.go1 (fun _ g _ _ _ _ _ _ _ _ _ _ _ _ _ _ ls hF _ _ _ hl k => lv_lor hF.1 hF.2.1 hd k) k
theorem Wk.lxor {a b : Int64} (hd : decode (cxC cx) pc = .ok (.lxor, 1)) (hq : pc + 1 = q) (k : Wk xs cx d bc bs q lv (vl (a ^^^ b) :: st) X I L post) : Wk xs cx d bc bs pc lv (vl b :: vl a :: st) X I L post := by
  subst hq
  exact Wk.go1 (fun _ g _ _ _ _ _ _ _ _ _ _ _ _ _ _ ls hF _ _ _ hl k => lv_lxor hF.1 hF.2.1 hd k) k
theorem Wk.lushr {a : Int64} {b : Int} (hd : decode (cxC cx) pc = .ok (.lushr, 1)) (hq : pc + 1 = q) (k : Wk xs cx d bc bs q lv (vl (a.toUInt64 >>> ((nZ b).toInt64.toUInt64 &&& Int64.toUInt64 63)).toInt64 :: st) X I L post) : Wk xs cx d bc bs pc lv (vi b :: vl a :: st) X I L post := by
  subst hq
  exact Wk.go1 (fun _ g _ _ _ _ _ _ _ _ _ _ _ _ _ _ ls hF _ _ _ hl k => lv_lushr hF.1 hF.2.1 hd rfl k) k
theorem Wk.lshl {a : Int64} {b : Int} (hd : decode (cxC cx) pc = .ok (.lshl, 1)) (hq : pc + 1 = q) (k : Wk xs cx d bc bs q lv (vl (a <<< ((nZ b).toInt64 &&& 63)) :: st) X I L post) : Wk xs cx d bc bs pc lv (vi b :: vl a :: st) X I L post := by
  subst hq
  exact Wk.go1 (fun _ g _ _ _ _ _ _ _ _ _ _ _ _ _ _ ls hF _ _ _ hl k => lv_lshl hF.1 hF.2.1 hd rfl k) k
theorem Wk.i2l {a : Int} (hd : decode (cxC cx) pc = .ok (.i2l, 1)) (hq : pc + 1 = q) (k : Wk xs cx d bc bs q lv (vl (nZ a).toInt64 :: st) X I L post) : Wk xs cx d bc bs pc lv (vi a :: st) X I L post := by
  subst hq
  exact Wk.go1 (fun _ g _ _ _ _ _ _ _ _ _ _ _ _ _ _ ls hF _ _ _ hl k => lv_i2l hF.1 hF.2.1 hd rfl k) k
theorem Wk.l2i {a : Int64} (hd : decode (cxC cx) pc = .ok (.l2i, 1)) (hq : pc + 1 = q) (k : Wk xs cx d bc bs q lv (vi a.toInt32.toInt :: st) X I L post) : Wk xs cx d bc bs pc lv (vl a :: st) X I L post := by
  subst hq
  exact Wk.go1 (fun _ g _ _ _ _ _ _ _ _ _ _ _ _ _ _ ls hF _ _ _ hl k => lv_l2i hF.1 hF.2.1 hd rfl (by have k2 := k; simp only [List.map, cv, vi, nZ_self] at k2; exact k2)) k
theorem Wk.dup {v : AV} (hd : decode (cxC cx) pc = .ok (.dup, 1)) (hv : notLong (some v) = true) (hq : pc + 1 = q) (k : Wk xs cx d bc bs q lv (v :: v :: st) X I L post) : Wk xs cx d bc bs pc lv (v :: st) X I L post := by
  subst hq
  exact Wk.go1 (fun _ g _ _ _ _ _ _ _ _ _ _ _ _ _ _ ls hF _ _ _ hl k => lv_dup hF.1 hF.2.1 hd ((lv_cat _).resolve_right (cv_cat hv)) k) k
theorem Wk.pop {v : AV} (hd : decode (cxC cx) pc = .ok (.pop, 1)) (hv : notLong (some v) = true) (hq : pc + 1 = q) (k : Wk xs cx d bc bs q lv (st) X I L post) : Wk xs cx d bc bs pc lv (v :: st) X I L post := by
  subst hq
  exact Wk.go1 (fun _ g _ _ _ _ _ _ _ _ _ _ _ _ _ _ ls hF _ _ _ hl k => lv_pop hF.1 hF.2.1 hd ((lv_cat _).resolve_right (cv_cat hv)) k) k
theorem Wk.dup2 {v w : AV} (hd : decode (cxC cx) pc = .ok (.dup2, 1)) (hv : notLong (some v) = true) (hw : notLong (some w) = true) (hq : pc + 1 = q) (k : Wk xs cx d bc bs q lv (v :: w :: v :: w :: st) X I L post) : Wk xs cx d bc bs pc lv (v :: w :: st) X I L post := by
  subst hq
  exact Wk.go1 (fun _ g _ _ _ _ _ _ _ _ _ _ _ _ _ _ ls hF _ _ _ hl k => lv_dup2_11 hF.1 hF.2.1 hd ((lv_cat _).resolve_right (cv_cat hv)) ((lv_cat _).resolve_right (cv_cat hw)) k) k
theorem Wk.goto {off : Int} (hd : decode (cxC cx) pc = .ok (.goto off, 3)) (ht : (pc : Int) + off = (q : Int)) (k : Wk xs cx d bc bs q lv st X I L post) : Wk xs cx d bc bs pc lv st X I L post :=
  Wk.go1 (fun _ g _ _ _ _ _ _ _ _ _ _ _ _ _ _ ls hF _ _ _ hl k => lv_goto hF.1 hF.2.1 hd ht k) k
/-- a branch: two ways on -/
theorem Wk.two {A B : Prop} {t : Nat} (h : ∀ (l : Launch) (g : GB) (p : Program) (e : Env) (R : Room) (s : State) (m : MethodId) (args : Array Value) (below : List Frame) (meth : Method) (c : Code) (Q : State → Prop) (H : Heap) (locs : List Loc) (cells slots : Nat) (ls : Array Slot),
    FOK g xs cx d p R s m args meth c → (A → W p l e R s m args below meth c H locs cells slots Q (F0 m t ls (st'.map (cv g)))) → (B → W p l e R s m args below meth c H locs cells slots Q (F0 m q ls (st'.map (cv g)))) → W p l e R s m args below meth c H locs cells slots Q (F0 m pc ls (st.map (cv g))))
    (kt : A → Wk xs cx d bc bs t lv st' X I L post) (kf : B → Wk xs cx d bc bs q lv st' X I L post) : Wk xs cx d bc bs pc lv st X I L post := by
  intro l g p e R s m args below meth c Q H locs cells slots ls hF hc hs hR hE hl hex
  exact h l g p e R s m args below meth c Q H locs cells slots ls hF (fun a => kt a l g p e R s m args below meth c Q H locs cells slots ls hF hc hs hR hE hl hex) (fun b => kf b l g p e R s m args below meth c Q H locs cells slots ls hF hc hs hR hE hl hex)
theorem Wk.icmp_eq {a b off : Int} {t : Nat} (hd : decode (cxC cx) pc = .ok (.if_icmp .eq off, 3)) (ht : (pc : Int) + off = (t : Int)) (hq : pc + 3 = q) (ha : -2147483648 ≤ a ∧ a ≤ 2147483647) (hb : -2147483648 ≤ b ∧ b ≤ 2147483647) (kt : a = b → Wk xs cx d bc bs t lv st X I L post) (kf : ¬ a = b → Wk xs cx d bc bs q lv st X I L post) : Wk xs cx d bc bs pc lv (vi b :: vi a :: st) X I L post := by
  subst hq
  exact Wk.two (fun _ g _ _ _ _ _ _ _ _ _ _ _ _ _ _ ls hF kt kf => lv_icmp_eq hF.1 hF.2.1 hd ht (fun h => kt ((nZ_eq ha hb).mp h)) (fun h => kf (fun z => h ((nZ_eq ha hb).mpr z)))) kt kf
theorem Wk.if_eq {a off : Int} {t : Nat} (hd : decode (cxC cx) pc = .ok (.ifCond .eq off, 3)) (ht : (pc : Int) + off = (t : Int)) (hq : pc + 3 = q) (ha : -2147483648 ≤ a ∧ a ≤ 2147483647) (kt : a = 0 → Wk xs cx d bc bs t lv st X I L post) (kf : ¬ a = 0 → Wk xs cx d bc bs q lv st X I L post) : Wk xs cx d bc bs pc lv (vi a :: st) X I L post := by
  subst hq
  have h00 : -2147483648 ≤ (0 : Int) ∧ (0 : Int) ≤ 2147483647 := by omega
  exact Wk.two (fun _ g _ _ _ _ _ _ _ _ _ _ _ _ _ _ ls hF kt kf => lv_if_eq hF.1 hF.2.1 hd ht (fun h => by rw [← nZ_0] at h; exact kt ((nZ_eq ha h00).mp h)) (fun h => by rw [← nZ_0] at h; exact kf (fun z => h ((nZ_eq ha h00).mpr z)))) kt kf
theorem Wk.icmp_ne {a b off : Int} {t : Nat} (hd : decode (cxC cx) pc = .ok (.if_icmp .ne off, 3)) (ht : (pc : Int) + off = (t : Int)) (hq : pc + 3 = q) (ha : -2147483648 ≤ a ∧ a ≤ 2147483647) (hb : -2147483648 ≤ b ∧ b ≤ 2147483647) (kt : ¬ a = b → Wk xs cx d bc bs t lv st X I L post) (kf : a = b → Wk xs cx d bc bs q lv st X I L post) : Wk xs cx d bc bs pc lv (vi b :: vi a :: st) X I L post := by
  subst hq
  exact Wk.two (fun _ g _ _ _ _ _ _ _ _ _ _ _ _ _ _ ls hF kt kf => lv_icmp_ne hF.1 hF.2.1 hd ht (fun h => kt (fun z => h ((nZ_eq ha hb).mpr z))) (fun h => kf ((nZ_eq ha hb).mp h))) kt kf
theorem Wk.if_ne {a off : Int} {t : Nat} (hd : decode (cxC cx) pc = .ok (.ifCond .ne off, 3)) (ht : (pc : Int) + off = (t : Int)) (hq : pc + 3 = q) (ha : -2147483648 ≤ a ∧ a ≤ 2147483647) (kt : ¬ a = 0 → Wk xs cx d bc bs t lv st X I L post) (kf : a = 0 → Wk xs cx d bc bs q lv st X I L post) : Wk xs cx d bc bs pc lv (vi a :: st) X I L post := by
  subst hq
  have h00 : -2147483648 ≤ (0 : Int) ∧ (0 : Int) ≤ 2147483647 := by omega
  exact Wk.two (fun _ g _ _ _ _ _ _ _ _ _ _ _ _ _ _ ls hF kt kf => lv_if_ne hF.1 hF.2.1 hd ht (fun h => by rw [← nZ_0] at h; exact kt (fun z => h ((nZ_eq ha h00).mpr z))) (fun h => by rw [← nZ_0] at h; exact kf ((nZ_eq ha h00).mp h))) kt kf
theorem Wk.icmp_lt {a b off : Int} {t : Nat} (hd : decode (cxC cx) pc = .ok (.if_icmp .lt off, 3)) (ht : (pc : Int) + off = (t : Int)) (hq : pc + 3 = q) (ha : -2147483648 ≤ a ∧ a ≤ 2147483647) (hb : -2147483648 ≤ b ∧ b ≤ 2147483647) (kt : a < b → Wk xs cx d bc bs t lv st X I L post) (kf : b ≤ a → Wk xs cx d bc bs q lv st X I L post) : Wk xs cx d bc bs pc lv (vi b :: vi a :: st) X I L post := by
  subst hq
  exact Wk.two (fun _ g _ _ _ _ _ _ _ _ _ _ _ _ _ _ ls hF kt kf => lv_icmp_lt hF.1 hF.2.1 hd ht (fun h => kt ((nZ_lt ha hb).mp h)) (fun h => kf (Int.not_lt.mp (fun z => h ((nZ_lt ha hb).mpr z))))) kt kf
theorem Wk.if_lt {a off : Int} {t : Nat} (hd : decode (cxC cx) pc = .ok (.ifCond .lt off, 3)) (ht : (pc : Int) + off = (t : Int)) (hq : pc + 3 = q) (ha : -2147483648 ≤ a ∧ a ≤ 2147483647) (kt : a < 0 → Wk xs cx d bc bs t lv st X I L post) (kf : 0 ≤ a → Wk xs cx d bc bs q lv st X I L post) : Wk xs cx d bc bs pc lv (vi a :: st) X I L post := by
  subst hq
  have h00 : -2147483648 ≤ (0 : Int) ∧ (0 : Int) ≤ 2147483647 := by omega
  exact Wk.two (fun _ g _ _ _ _ _ _ _ _ _ _ _ _ _ _ ls hF kt kf => lv_if_lt hF.1 hF.2.1 hd ht (fun h => by rw [← nZ_0] at h; exact kt ((nZ_lt ha h00).mp h)) (fun h => by rw [← nZ_0] at h; exact kf (Int.not_lt.mp (fun z => h ((nZ_lt ha h00).mpr z))))) kt kf
theorem Wk.icmp_ge {a b off : Int} {t : Nat} (hd : decode (cxC cx) pc = .ok (.if_icmp .ge off, 3)) (ht : (pc : Int) + off = (t : Int)) (hq : pc + 3 = q) (ha : -2147483648 ≤ a ∧ a ≤ 2147483647) (hb : -2147483648 ≤ b ∧ b ≤ 2147483647) (kt : b ≤ a → Wk xs cx d bc bs t lv st X I L post) (kf : a < b → Wk xs cx d bc bs q lv st X I L post) : Wk xs cx d bc bs pc lv (vi b :: vi a :: st) X I L post := by
  subst hq
  exact Wk.two (fun _ g _ _ _ _ _ _ _ _ _ _ _ _ _ _ ls hF kt kf => lv_icmp_ge hF.1 hF.2.1 hd ht (fun h => kt ((nZ_le hb ha).mp h)) (fun h => kf (Int.not_le.mp (fun z => h ((nZ_le hb ha).mpr z))))) kt kf
theorem Wk.if_ge {a off : Int} {t : Nat} (hd : decode (cxC cx) pc = .ok (.ifCond .ge off, 3)) (ht : (pc : Int) + off = (t : Int)) (hq : pc + 3 = q) (ha : -2147483648 ≤ a ∧ a ≤ 2147483647) (kt : 0 ≤ a → Wk xs cx d bc bs t lv st X I L post) (kf : a < 0 → Wk xs cx d bc bs q lv st X I L post) : Wk xs cx d bc bs pc lv (vi a :: st) X I L post := by
  subst hq
  have h00 : -2147483648 ≤ (0 : Int) ∧ (0 : Int) ≤ 2147483647 := by omega
  exact Wk.two (fun _ g _ _ _ _ _ _ _ _ _ _ _ _ _ _ ls hF kt kf => lv_if_ge hF.1 hF.2.1 hd ht (fun h => by rw [← nZ_0] at h; exact kt ((nZ_le h00 ha).mp h)) (fun h => by rw [← nZ_0] at h; exact kf (Int.not_le.mp (fun z => h ((nZ_le h00 ha).mpr z))))) kt kf
theorem Wk.icmp_gt {a b off : Int} {t : Nat} (hd : decode (cxC cx) pc = .ok (.if_icmp .gt off, 3)) (ht : (pc : Int) + off = (t : Int)) (hq : pc + 3 = q) (ha : -2147483648 ≤ a ∧ a ≤ 2147483647) (hb : -2147483648 ≤ b ∧ b ≤ 2147483647) (kt : b < a → Wk xs cx d bc bs t lv st X I L post) (kf : a ≤ b → Wk xs cx d bc bs q lv st X I L post) : Wk xs cx d bc bs pc lv (vi b :: vi a :: st) X I L post := by
  subst hq
  exact Wk.two (fun _ g _ _ _ _ _ _ _ _ _ _ _ _ _ _ ls hF kt kf => lv_icmp_gt hF.1 hF.2.1 hd ht (fun h => kt ((nZ_lt hb ha).mp h)) (fun h => kf (Int.not_lt.mp (fun z => h ((nZ_lt hb ha).mpr z))))) kt kf
theorem Wk.if_gt {a off : Int} {t : Nat} (hd : decode (cxC cx) pc = .ok (.ifCond .gt off, 3)) (ht : (pc : Int) + off = (t : Int)) (hq : pc + 3 = q) (ha : -2147483648 ≤ a ∧ a ≤ 2147483647) (kt : 0 < a → Wk xs cx d bc bs t lv st X I L post) (kf : a ≤ 0 → Wk xs cx d bc bs q lv st X I L post) : Wk xs cx d bc bs pc lv (vi a :: st) X I L post := by
  subst hq
  have h00 : -2147483648 ≤ (0 : Int) ∧ (0 : Int) ≤ 2147483647 := by omega
  exact Wk.two (fun _ g _ _ _ _ _ _ _ _ _ _ _ _ _ _ ls hF kt kf => lv_if_gt hF.1 hF.2.1 hd ht (fun h => by rw [← nZ_0] at h; exact kt ((nZ_lt h00 ha).mp h)) (fun h => by rw [← nZ_0] at h; exact kf (Int.not_lt.mp (fun z => h ((nZ_lt h00 ha).mpr z))))) kt kf
theorem Wk.icmp_le {a b off : Int} {t : Nat} (hd : decode (cxC cx) pc = .ok (.if_icmp .le off, 3)) (ht : (pc : Int) + off = (t : Int)) (hq : pc + 3 = q) (ha : -2147483648 ≤ a ∧ a ≤ 2147483647) (hb : -2147483648 ≤ b ∧ b ≤ 2147483647) (kt : a ≤ b → Wk xs cx d bc bs t lv st X I L post) (kf : b < a → Wk xs cx d bc bs q lv st X I L post) : Wk xs cx d bc bs pc lv (vi b :: vi a :: st) X I L post := by
  subst hq
  exact Wk.two (fun _ g _ _ _ _ _ _ _ _ _ _ _ _ _ _ ls hF kt kf => lv_icmp_le hF.1 hF.2.1 hd ht (fun h => kt ((nZ_le ha hb).mp h)) (fun h => kf (Int.not_le.mp (fun z => h ((nZ_le ha hb).mpr z))))) kt kf
theorem Wk.if_le {a off : Int} {t : Nat} (hd : decode (cxC cx) pc = .ok (.ifCond .le off, 3)) (ht : (pc : Int) + off = (t : Int)) (hq : pc + 3 = q) (ha : -2147483648 ≤ a ∧ a ≤ 2147483647) (kt : a ≤ 0 → Wk xs cx d bc bs t lv st X I L post) (kf : 0 < a → Wk xs cx d bc bs q lv st X I L post) : Wk xs cx d bc bs pc lv (vi a :: st) X I L post := by
  subst hq
  have h00 : -2147483648 ≤ (0 : Int) ∧ (0 : Int) ≤ 2147483647 := by omega
  exact Wk.two (fun _ g _ _ _ _ _ _ _ _ _ _ _ _ _ _ ls hF kt kf => lv_if_le hF.1 hF.2.1 hd ht (fun h => by rw [← nZ_0] at h; exact kt ((nZ_le ha h00).mp h)) (fun h => by rw [← nZ_0] at h; exact kf (Int.not_le.mp (fun z => h ((nZ_le ha h00).mpr z))))) kt kf
end WKL
