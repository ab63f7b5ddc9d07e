/-! the judgement: at state x of a world of fixed cells, at pc, with locals L and stack st, the machine comes to Q -/
abbrev CTX (X : Type) : Type := Program × Launch × Jvm.Env × Room × State × MethodId × Array Value × List Frame × Method × Code × (State → Prop) × (Nat → Prop) × Heap × Nat × va_G × List (ClassId × FieldType) × (X → va_W)
def LV (ls : Array Slot) (nL : Nat) (L : List (Option Value)) : Prop := ls.size = nL ∧ lv_wf ls ∧ ∀ (i : Nat) (v : Value), L[i]? = some (some v) → ls[i]? = some (.val v)
def J {X : Type} (Γ : CTX X) (x : X) (pc : Nat) (L : List (Option Value)) (st : List Value) : Prop := match Γ with
  | (p, l, e, R, s, m, args, below, meth, c, Q, A, H0, nL, D, tys, w) => ∀ (H : Heap) (locs : List Loc) (ls : Array Slot), va_P D vwCl (w x) H → va_D A (w x) → va_S A H0 H locs → LV ls nL L → W p l e R s m args below meth c H locs 0 0 Q (F0 m pc ls st)
/-- the addresses and array classes of a world -/
abbrev EC : Type := va_G × (Nat → Nat) × ClassId × ClassId × ClassId
def tyZ (Z : EC) : List (ClassId × FieldType) := [(Z.2.2.1, .int), (Z.2.2.2.1, .object "TideSeats$Sheet"), (Z.2.2.2.2, .array .int)]
/-- the links between nest mates -/
def NWs : List Cond := [.methodLinkNest RX5 17 yX3_init RX5, .methodLinkNest RX5 20 yX0_init RX5, .methodLinkNest RX5 27 yX1_init RX5, .methodLinkNest RX5 34 yX2_init RX5, .methodLinkNest RX5 41 yX4_init RX5, .methodLinkNest RX3 26 yX5_isWithin RX5, .methodLinkNest RX0 35 yX5_isWithin RX5, .methodLinkNest RX4 89 yX5_oneIf RX5, .methodLinkNest RX2 41 yX5_isWithin RX5]
def NW (U : State) : Prop := ∀ w ∈ NWs, va_Nw w U
theorem NWs_on : ∀ w ∈ NWs, w.onTables = true := by decide
theorem NW.same {u U : State} (h : u.vm = U.vm) (hN : NW u) : NW U := fun w hw => va_Nw.same (NWs_on w hw) h (hN w hw)
theorem NW.warm {s U : State} (hW : s.WarmedH U.vm) (hN : NW s) : NW U := by
  intro w hw
  have h := hN w hw
  simp only [NWs, List.mem_cons, List.not_mem_nil, or_false] at hw
  rcases hw with rfl | rfl | rfl | rfl | rfl | rfl | rfl | rfl | rfl <;> exact va_Nw.warmM hW h
def CJ {X : Type} (l0 : Launch) (Z : EC) (w0 : X → va_W) (Γ : CTX X) (cc : ByteArray) (own : String) (rm : Room) (n : Nat) : Prop := match Γ with
  | (p, l, e, R, s, m, args, below, meth, c, Q, A, H0, nL, D, tys, w) => p.tables.exec = Jvm.exec ∧ c.code = cc ∧ c.maxLocals = nL ∧ nL = n ∧ s.vm.findClass own = some m.cls ∧ (∀ w ∈ wsL_law, w.before args s = true) ∧ va_K D vwCl tys s ∧ (∀ q : Nat, H0.size ≤ q → A q) ∧ R = rm ∧ l = l0 ∧ D = Z.1 ∧ tys = tyZ Z ∧ w = w0 ∧ NW s
def lvp (L : List (Option Value)) : List (Nat × Value) := (List.range L.length).filterMap (fun j => match L[j]? with | some (some v) => some (j, v) | _ => none)
theorem lvp_mem {L : List (Option Value)} {j : Nat} {v : Value} (h : L[j]? = some (some v)) : (j, v) ∈ lvp L := by
  have hj : j < L.length := (List.getElem?_eq_some_iff.mp h).1
  exact List.mem_filterMap.mpr ⟨j, List.mem_range.mpr hj, by rw [h]⟩
theorem lvp_of {L : List (Option Value)} {q : Nat × Value} (h : q ∈ lvp L) : L[q.1]? = some (some q.2) := by
  obtain ⟨j, -, hj⟩ := List.mem_filterMap.mp h
  cases hL : L[j]? with
  | none => rw [hL] at hj; cases hj
  | some o =>
    cases o with
    | none => rw [hL] at hj; cases hj
    | some v => rw [hL] at hj; cases hj; exact hL
theorem LV.has {ls : Array Slot} {nL : Nat} {L : List (Option Value)} (h : LV ls nL L) : lv_has ls nL (lvp L) := ⟨h.1, h.2.1, fun q hq => h.2.2 q.1 q.2 (lvp_of hq)⟩
def chk (L : List (Option Value)) (i : Nat) : Bool := match i with
  | 0 => true
  | j + 1 => match L[j]? with
    | some (some v) => v.category == 1
    | _ => true
theorem LV.put {ls : Array Slot} {nL i : Nat} {L : List (Option Value)} {v : Value} (hc : chk L i = true) (h : lv_has ls nL ((i, v) :: (lvp L).filter (fun q => !(q.1 == i) && !(q.1 + 1 == i && q.2.category == 2)))) : LV ls nL (L.set i (some v)) := by
  refine ⟨h.1, h.2.1, fun j u hj => ?_⟩
  by_cases e : j = i
  · subst e
    by_cases hl : j < L.length
    · rw [List.getElem?_set_self hl] at hj
      cases hj
      exact h.2.2 (j, v) List.mem_cons_self
    · rw [List.set_eq_of_length_le (by omega)] at hj
      exact absurd (List.getElem?_eq_some_iff.mp hj).1 hl
  · rw [List.getElem?_set_ne (fun q => e q.symm)] at hj
    refine h.2.2 (j, u) (List.mem_cons_of_mem _ (List.mem_filter.mpr ⟨lvp_mem hj, ?_⟩))
    have e1 : (j == i) = false := by simp [e]
    simp only [e1, Bool.not_false, Bool.true_and, Bool.not_eq_true', Bool.and_eq_false_iff]
    by_cases e2 : j + 1 = i
    · right
      subst e2
      simp only [chk, hj, beq_iff_eq] at hc
      simp [hc]
    · left
      simp [e2]
theorem LV.put2 {ls : Array Slot} {nL i : Nat} {L : List (Option Value)} {v : Value} (hc : chk L i = true) (h : lv_has ls nL ((i, v) :: (lvp L).filter (fun q => !(q.1 == i) && (!(q.1 == i + 1) && !(q.1 + 1 == i && q.2.category == 2))))) : LV ls nL ((L.set i (some v)).set (i + 1) none) := by
  refine ⟨h.1, h.2.1, fun j u hj => ?_⟩
  by_cases e3 : j = i + 1
  · subst e3
    rw [List.getElem?_set] at hj
    simp at hj
  rw [List.getElem?_set_ne (fun q => e3 q.symm)] at hj
  by_cases e : j = i
  · subst e
    by_cases hl : j < L.length
    · rw [List.getElem?_set_self hl] at hj
      cases hj
      exact h.2.2 (j, v) List.mem_cons_self
    · rw [List.set_eq_of_length_le (by omega)] at hj
      exact absurd (List.getElem?_eq_some_iff.mp hj).1 hl
  · rw [List.getElem?_set_ne (fun q => e q.symm)] at hj
    refine h.2.2 (j, u) (List.mem_cons_of_mem _ (List.mem_filter.mpr ⟨lvp_mem hj, ?_⟩))
    have e1 : (j == i) = false := by simp [e]
    have e4 : (j == i + 1) = false := by simp [e3]
    simp only [e1, e4, Bool.not_false, Bool.true_and, Bool.not_eq_true', Bool.and_eq_false_iff]
    by_cases e2 : j + 1 = i
    · right
      subst e2
      simp only [chk, hj, beq_iff_eq] at hc
      simp [hc]
    · left
      simp [e2]
theorem LV.drop {ls : Array Slot} {nL : Nat} {L L' : List (Option Value)} (h : LV ls nL L) (hs : ∀ (i : Nat) (v : Value), L'[i]? = some (some v) → L[i]? = some (some v)) : LV ls nL L' := ⟨h.1, h.2.1, fun i v hi => h.2.2 i v (hs i v hi)⟩
def lsub : List (Option Value) → List (Option Value) → Prop
  | [], _ => True
  | none :: a, _ :: b => lsub a b
  | some v :: a, some u :: b => v = u ∧ lsub a b
  | none :: a, [] => lsub a []
  | some _ :: _, none :: _ => False
  | some _ :: _, [] => False
theorem lsub_at : ∀ (a b : List (Option Value)), lsub a b → ∀ (i : Nat) (v : Value), a[i]? = some (some v) → b[i]? = some (some v)
  | [], _, _, i, v, h => by simp at h
  | none :: a, u :: b, hs, i, v, h => by
    cases i with
    | zero => simp at h
    | succ i => simp only [List.getElem?_cons_succ] at h ⊢; exact lsub_at a b hs i v h
  | some w :: a, some u :: b, hs, i, v, h => by
    obtain ⟨rfl, hs⟩ := hs
    cases i with
    | zero => simpa using h
    | succ i => simp only [List.getElem?_cons_succ] at h ⊢; exact lsub_at a b hs i v h
  | none :: a, [], hs, i, v, h => by
    cases i with
    | zero => simp at h
    | succ i =>
      simp only [List.getElem?_cons_succ] at h
      have := lsub_at a [] hs i v h
      simp at this
  | some _ :: _, none :: _, hs, _, _, _ => absurd hs (by simp [lsub])
  | some _ :: _, [], hs, _, _, _ => absurd hs (by simp [lsub])
section JR
variable {l0 : Launch} {Z : EC} {X : Type} {w0 : X → va_W} {Γ : CTX X} {x : X} {cc : ByteArray} {own : String} {rm : Room} {n pc : Nat} {L : List (Option Value)} {st : List Value}
/-- weaker locals -/
theorem J_drop {L' : List (Option Value)} (h : lsub L' L) (k : J Γ x pc L' st) : J Γ x pc L st := by
  obtain ⟨p, l, e, R, s, m, args, below, meth, c, Q, A, H0, nL, D, tys, w⟩ := Γ
  exact fun H locs ls hP hD hS hL => k H locs ls hP hD hS (hL.drop (lsub_at _ _ h))
theorem J_iload_n (C : CJ l0 Z w0 Γ cc own rm n) {j : Fin 4} {i : Nat} {v : Int32} (d : decode cc pc = .ok (.iload_n j, 1)) (hj : (j : Nat) = i) (h : L[i]? = some (some (.int v))) (k : J Γ x (pc + 1) L (.int v :: st)) : J Γ x pc L (st) := by
  obtain ⟨p, l, e, R, s, m, args, below, meth, c, Q, A, H0, nL, D, tys, w⟩ := Γ
  obtain ⟨hx, hb, hml, hn, hown, hts, hK, hA, hR, hl0, hD0, hty, hw, hNW⟩ := C
  exact fun H locs ls hP hD hS hL => lv_iload_n hx hb d hj (hL.2.2 i _ h) (k H locs ls hP hD hS hL)
theorem J_iload (C : CJ l0 Z w0 Γ cc own rm n) {i : Nat} {v : Int32} (d : decode cc pc = .ok (.iload i, 2)) (h : L[i]? = some (some (.int v))) (k : J Γ x (pc + 2) L (.int v :: st)) : J Γ x pc L (st) := by
  obtain ⟨p, l, e, R, s, m, args, below, meth, c, Q, A, H0, nL, D, tys, w⟩ := Γ
  obtain ⟨hx, hb, hml, hn, hown, hts, hK, hA, hR, hl0, hD0, hty, hw, hNW⟩ := C
  exact fun H locs ls hP hD hS hL => lv_iload hx hb d (hL.2.2 i _ h) (k H locs ls hP hD hS hL)
theorem J_lload_n (C : CJ l0 Z w0 Γ cc own rm n) {j : Fin 4} {i : Nat} {v : Int64} (d : decode cc pc = .ok (.lload_n j, 1)) (hj : (j : Nat) = i) (h : L[i]? = some (some (.long v))) (k : J Γ x (pc + 1) L (.long v :: st)) : J Γ x pc L (st) := by
  obtain ⟨p, l, e, R, s, m, args, below, meth, c, Q, A, H0, nL, D, tys, w⟩ := Γ
  obtain ⟨hx, hb, hml, hn, hown, hts, hK, hA, hR, hl0, hD0, hty, hw, hNW⟩ := C
  exact fun H locs ls hP hD hS hL => lv_lload_n hx hb d hj (hL.2.2 i _ h) (k H locs ls hP hD hS hL)
theorem J_lload (C : CJ l0 Z w0 Γ cc own rm n) {i : Nat} {v : Int64} (d : decode cc pc = .ok (.lload i, 2)) (h : L[i]? = some (some (.long v))) (k : J Γ x (pc + 2) L (.long v :: st)) : J Γ x pc L (st) := by
  obtain ⟨p, l, e, R, s, m, args, below, meth, c, Q, A, H0, nL, D, tys, w⟩ := Γ
  obtain ⟨hx, hb, hml, hn, hown, hts, hK, hA, hR, hl0, hD0, hty, hw, hNW⟩ := C
  exact fun H locs ls hP hD hS hL => lv_lload hx hb d (hL.2.2 i _ h) (k H locs ls hP hD hS hL)
theorem J_aload_n (C : CJ l0 Z w0 Γ cc own rm n) {j : Fin 4} {i : Nat} {v : Nat} (d : decode cc pc = .ok (.aload_n j, 1)) (hj : (j : Nat) = i) (h : L[i]? = some (some (.ref v))) (k : J Γ x (pc + 1) L (.ref v :: st)) : J Γ x pc L (st) := by
  obtain ⟨p, l, e, R, s, m, args, below, meth, c, Q, A, H0, nL, D, tys, w⟩ := Γ
  obtain ⟨hx, hb, hml, hn, hown, hts, hK, hA, hR, hl0, hD0, hty, hw, hNW⟩ := C
  exact fun H locs ls hP hD hS hL => lv_aload_n hx hb d hj (hL.2.2 i _ h) (k H locs ls hP hD hS hL)
theorem J_aload (C : CJ l0 Z w0 Γ cc own rm n) {i : Nat} {v : Nat} (d : decode cc pc = .ok (.aload i, 2)) (h : L[i]? = some (some (.ref v))) (k : J Γ x (pc + 2) L (.ref v :: st)) : J Γ x pc L (st) := by
  obtain ⟨p, l, e, R, s, m, args, below, meth, c, Q, A, H0, nL, D, tys, w⟩ := Γ
  obtain ⟨hx, hb, hml, hn, hown, hts, hK, hA, hR, hl0, hD0, hty, hw, hNW⟩ := C
  exact fun H locs ls hP hD hS hL => lv_aload hx hb d (hL.2.2 i _ h) (k H locs ls hP hD hS hL)
theorem J_iconst (C : CJ l0 Z w0 Γ cc own rm n) {z : Int} {v : Int32} (d : decode cc pc = .ok (.iconst z, 1)) (hv : Int32.ofInt z = v) (k : J Γ x (pc + 1) L (.int v :: st)) : J Γ x pc L (st) := by
  obtain ⟨p, l, e, R, s, m, args, below, meth, c, Q, A, H0, nL, D, tys, w⟩ := Γ
  obtain ⟨hx, hb, hml, hn, hown, hts, hK, hA, hR, hl0, hD0, hty, hw, hNW⟩ := C
  exact fun H locs ls hP hD hS hL => lv_iconst hx hb d hv (k H locs ls hP hD hS hL)
theorem J_bipush (C : CJ l0 Z w0 Γ cc own rm n) {z : Int} {v : Int32} (d : decode cc pc = .ok (.bipush z, 2)) (hv : (Int8.ofInt z).toInt32 = v) (k : J Γ x (pc + 2) L (.int v :: st)) : J Γ x pc L (st) := by
  obtain ⟨p, l, e, R, s, m, args, below, meth, c, Q, A, H0, nL, D, tys, w⟩ := Γ
  obtain ⟨hx, hb, hml, hn, hown, hts, hK, hA, hR, hl0, hD0, hty, hw, hNW⟩ := C
  exact fun H locs ls hP hD hS hL => lv_bipush hx hb d hv (k H locs ls hP hD hS hL)
theorem J_sipush (C : CJ l0 Z w0 Γ cc own rm n) {z : Int} {v : Int32} (d : decode cc pc = .ok (.sipush z, 3)) (hv : (Int16.ofInt z).toInt32 = v) (k : J Γ x (pc + 3) L (.int v :: st)) : J Γ x pc L (st) := by
  obtain ⟨p, l, e, R, s, m, args, below, meth, c, Q, A, H0, nL, D, tys, w⟩ := Γ
  obtain ⟨hx, hb, hml, hn, hown, hts, hK, hA, hR, hl0, hD0, hty, hw, hNW⟩ := C
  exact fun H locs ls hP hD hS hL => lv_sipush hx hb d hv (k H locs ls hP hD hS hL)
theorem J_lconst (C : CJ l0 Z w0 Γ cc own rm n) {z : Fin 2} {v : Int64} (d : decode cc pc = .ok (.lconst z, 1)) (hv : Int64.ofNat (z : Nat) = v) (k : J Γ x (pc + 1) L (.long v :: st)) : J Γ x pc L (st) := by
  obtain ⟨p, l, e, R, s, m, args, below, meth, c, Q, A, H0, nL, D, tys, w⟩ := Γ
  obtain ⟨hx, hb, hml, hn, hown, hts, hK, hA, hR, hl0, hD0, hty, hw, hNW⟩ := C
  exact fun H locs ls hP hD hS hL => lv_lconst hx hb d hv (k H locs ls hP hD hS hL)
theorem J_ldcw (C : CJ l0 Z w0 Γ cc own rm n) {i : Nat} {v : Int32} (hwd : Cond.constant own i v ∈ wsL_law) (d : decode cc pc = .ok (.ldc_w i, 3)) (k : J Γ x (pc + 3) L (.int v :: st)) : J Γ x pc L (st) := by
  obtain ⟨p, l, e, R, s, m, args, below, meth, c, Q, A, H0, nL, D, tys, w⟩ := Γ
  obtain ⟨hx, hb, hml, hn, hown, hts, hK, hA, hR, hl0, hD0, hty, hw, hNW⟩ := C
  exact fun H locs ls hP hD hS hL => lv_ldcw hx hb hown (hts _ hwd) d (k H locs ls hP hD hS hL)
theorem J_ldc2 (C : CJ l0 Z w0 Γ cc own rm n) {i : Nat} {v : Int64} (hwd : Cond.constantLong own i v ∈ wsL_law) (d : decode cc pc = .ok (.ldc2_w i, 3)) (k : J Γ x (pc + 3) L (.long v :: st)) : J Γ x pc L (st) := by
  obtain ⟨p, l, e, R, s, m, args, below, meth, c, Q, A, H0, nL, D, tys, w⟩ := Γ
  obtain ⟨hx, hb, hml, hn, hown, hts, hK, hA, hR, hl0, hD0, hty, hw, hNW⟩ := C
  exact fun H locs ls hP hD hS hL => lv_ldc2 hx hb hown (hts _ hwd) d (k H locs ls hP hD hS hL)
theorem J_iadd (C : CJ l0 Z w0 Γ cc own rm n) {a b v : Int32} (d : decode cc pc = .ok (.iadd, 1)) (hv : a + b = v) (k : J Γ x (pc + 1) L (.int v :: st)) : J Γ x pc L (.int b :: .int a :: st) := by
  obtain ⟨p, l, e, R, s, m, args, below, meth, c, Q, A, H0, nL, D, tys, w⟩ := Γ
  obtain ⟨hx, hb, hml, hn, hown, hts, hK, hA, hR, hl0, hD0, hty, hw, hNW⟩ := C
  exact fun H locs ls hP hD hS hL => lv_iadd hx hb d (hv ▸ k H locs ls hP hD hS hL)
theorem J_isub (C : CJ l0 Z w0 Γ cc own rm n) {a b v : Int32} (d : decode cc pc = .ok (.isub, 1)) (hv : a - b = v) (k : J Γ x (pc + 1) L (.int v :: st)) : J Γ x pc L (.int b :: .int a :: st) := by
  obtain ⟨p, l, e, R, s, m, args, below, meth, c, Q, A, H0, nL, D, tys, w⟩ := Γ
  obtain ⟨hx, hb, hml, hn, hown, hts, hK, hA, hR, hl0, hD0, hty, hw, hNW⟩ := C
  exact fun H locs ls hP hD hS hL => lv_isub hx hb d (hv ▸ k H locs ls hP hD hS hL)
theorem J_imul (C : CJ l0 Z w0 Γ cc own rm n) {a b v : Int32} (d : decode cc pc = .ok (.imul, 1)) (hv : a * b = v) (k : J Γ x (pc + 1) L (.int v :: st)) : J Γ x pc L (.int b :: .int a :: st) := by
  obtain ⟨p, l, e, R, s, m, args, below, meth, c, Q, A, H0, nL, D, tys, w⟩ := Γ
  obtain ⟨hx, hb, hml, hn, hown, hts, hK, hA, hR, hl0, hD0, hty, hw, hNW⟩ := C
  exact fun H locs ls hP hD hS hL => lv_imul hx hb d (hv ▸ k H locs ls hP hD hS hL)
theorem J_iand (C : CJ l0 Z w0 Γ cc own rm n) {a b v : Int32} (d : decode cc pc = .ok (.iand, 1)) (hv : a &&& b = v) (k : J Γ x (pc + 1) L (.int v :: st)) : J Γ x pc L (.int b :: .int a :: st) := by
  obtain ⟨p, l, e, R, s, m, args, below, meth, c, Q, A, H0, nL, D, tys, w⟩ := Γ
  obtain ⟨hx, hb, hml, hn, hown, hts, hK, hA, hR, hl0, hD0, hty, hw, hNW⟩ := C
  exact fun H locs ls hP hD hS hL => lv_iand hx hb d (hv ▸ k H locs ls hP hD hS hL)
theorem J_ior (C : CJ l0 Z w0 Γ cc own rm n) {a b v : Int32} (d : decode cc pc = .ok (.ior, 1)) (hv : a ||| b = v) (k : J Γ x (pc + 1) L (.int v :: st)) : J Γ x pc L (.int b :: .int a :: st) := by
  obtain ⟨p, l, e, R, s, m, args, below, meth, c, Q, A, H0, nL, D, tys, w⟩ := Γ
  obtain ⟨hx, hb, hml, hn, hown, hts, hK, hA, hR, hl0, hD0, hty, hw, hNW⟩ := C
  exact fun H locs ls hP hD hS hL => lv_ior hx hb d (hv ▸ k H locs ls hP hD hS hL)
theorem J_ixor (C : CJ l0 Z w0 Γ cc own rm n) {a b v : Int32} (d : decode cc pc = .ok (.ixor, 1)) (hv : a ^^^ b = v) (k : J Γ x (pc + 1) L (.int v :: st)) : J Γ x pc L (.int b :: .int a :: st) := by
  obtain ⟨p, l, e, R, s, m, args, below, meth, c, Q, A, H0, nL, D, tys, w⟩ := Γ
  obtain ⟨hx, hb, hml, hn, hown, hts, hK, hA, hR, hl0, hD0, hty, hw, hNW⟩ := C
  exact fun H locs ls hP hD hS hL => lv_ixor hx hb d (hv ▸ k H locs ls hP hD hS hL)
theorem J_ishl (C : CJ l0 Z w0 Γ cc own rm n) {a b v : Int32} (d : decode cc pc = .ok (.ishl, 1)) (hv : a <<< (b &&& 31) = v) (k : J Γ x (pc + 1) L (.int v :: st)) : J Γ x pc L (.int b :: .int a :: st) := by
  obtain ⟨p, l, e, R, s, m, args, below, meth, c, Q, A, H0, nL, D, tys, w⟩ := Γ
  obtain ⟨hx, hb, hml, hn, hown, hts, hK, hA, hR, hl0, hD0, hty, hw, hNW⟩ := C
  exact fun H locs ls hP hD hS hL => lv_ishl hx hb d (hv ▸ k H locs ls hP hD hS hL)
theorem J_ishr (C : CJ l0 Z w0 Γ cc own rm n) {a b v : Int32} (d : decode cc pc = .ok (.ishr, 1)) (hv : a >>> (b &&& 31) = v) (k : J Γ x (pc + 1) L (.int v :: st)) : J Γ x pc L (.int b :: .int a :: st) := by
  obtain ⟨p, l, e, R, s, m, args, below, meth, c, Q, A, H0, nL, D, tys, w⟩ := Γ
  obtain ⟨hx, hb, hml, hn, hown, hts, hK, hA, hR, hl0, hD0, hty, hw, hNW⟩ := C
  exact fun H locs ls hP hD hS hL => lv_ishr hx hb d (hv ▸ k H locs ls hP hD hS hL)
theorem J_iushr (C : CJ l0 Z w0 Γ cc own rm n) {a b v : Int32} (d : decode cc pc = .ok (.iushr, 1)) (hv : (a.toUInt32 >>> (b.toUInt32 &&& Int32.toUInt32 31)).toInt32 = v) (k : J Γ x (pc + 1) L (.int v :: st)) : J Γ x pc L (.int b :: .int a :: st) := by
  obtain ⟨p, l, e, R, s, m, args, below, meth, c, Q, A, H0, nL, D, tys, w⟩ := Γ
  obtain ⟨hx, hb, hml, hn, hown, hts, hK, hA, hR, hl0, hD0, hty, hw, hNW⟩ := C
  exact fun H locs ls hP hD hS hL => lv_iushr hx hb d hv (k H locs ls hP hD hS hL)
theorem J_ineg (C : CJ l0 Z w0 Γ cc own rm n) {a v : Int32} (d : decode cc pc = .ok (.ineg, 1)) (hv : -a = v) (k : J Γ x (pc + 1) L (.int v :: st)) : J Γ x pc L (.int a :: st) := by
  obtain ⟨p, l, e, R, s, m, args, below, meth, c, Q, A, H0, nL, D, tys, w⟩ := Γ
  obtain ⟨hx, hb, hml, hn, hown, hts, hK, hA, hR, hl0, hD0, hty, hw, hNW⟩ := C
  exact fun H locs ls hP hD hS hL => lv_ineg hx hb d (hv ▸ k H locs ls hP hD hS hL)
theorem J_idiv (C : CJ l0 Z w0 Γ cc own rm n) {a b v : Int32} (d : decode cc pc = .ok (.idiv, 1)) (h0 : ¬ b = 0) (hv : a / b = v) (k : J Γ x (pc + 1) L (.int v :: st)) : J Γ x pc L (.int b :: .int a :: st) := by
  obtain ⟨p, l, e, R, s, m, args, below, meth, c, Q, A, H0, nL, D, tys, w⟩ := Γ
  obtain ⟨hx, hb, hml, hn, hown, hts, hK, hA, hR, hl0, hD0, hty, hw, hNW⟩ := C
  exact fun H locs ls hP hD hS hL => lv_idiv hx hb d h0 (hv ▸ k H locs ls hP hD hS hL)
theorem J_irem (C : CJ l0 Z w0 Γ cc own rm n) {a b v : Int32} (d : decode cc pc = .ok (.irem, 1)) (h0 : ¬ b = 0) (hv : a - a / b * b = v) (k : J Γ x (pc + 1) L (.int v :: st)) : J Γ x pc L (.int b :: .int a :: st) := by
  obtain ⟨p, l, e, R, s, m, args, below, meth, c, Q, A, H0, nL, D, tys, w⟩ := Γ
  obtain ⟨hx, hb, hml, hn, hown, hts, hK, hA, hR, hl0, hD0, hty, hw, hNW⟩ := C
  exact fun H locs ls hP hD hS hL => lv_irem hx hb d h0 (hv ▸ k H locs ls hP hD hS hL)
theorem J_ldiv (C : CJ l0 Z w0 Γ cc own rm n) {a b v : Int64} (d : decode cc pc = .ok (.ldiv, 1)) (h0 : ¬ b = 0) (hv : a / b = v) (k : J Γ x (pc + 1) L (.long v :: st)) : J Γ x pc L (.long b :: .long a :: st) := by
  obtain ⟨p, l, e, R, s, m, args, below, meth, c, Q, A, H0, nL, D, tys, w⟩ := Γ
  obtain ⟨hx, hb, hml, hn, hown, hts, hK, hA, hR, hl0, hD0, hty, hw, hNW⟩ := C
  exact fun H locs ls hP hD hS hL => lv_ldiv hx hb d h0 (hv ▸ k H locs ls hP hD hS hL)
theorem J_lrem (C : CJ l0 Z w0 Γ cc own rm n) {a b v : Int64} (d : decode cc pc = .ok (.lrem, 1)) (h0 : ¬ b = 0) (hv : a - a / b * b = v) (k : J Γ x (pc + 1) L (.long v :: st)) : J Γ x pc L (.long b :: .long a :: st) := by
  obtain ⟨p, l, e, R, s, m, args, below, meth, c, Q, A, H0, nL, D, tys, w⟩ := Γ
  obtain ⟨hx, hb, hml, hn, hown, hts, hK, hA, hR, hl0, hD0, hty, hw, hNW⟩ := C
  exact fun H locs ls hP hD hS hL => lv_lrem hx hb d h0 (hv ▸ k H locs ls hP hD hS hL)
theorem J_lcmp (C : CJ l0 Z w0 Γ cc own rm n) {a b : Int64} (d : decode cc pc = .ok (.lcmp, 1)) (k : J Γ x (pc + 1) L (.int (lg_cmp a b) :: st)) : J Γ x pc L (.long b :: .long a :: st) := by
  obtain ⟨p, l, e, R, s, m, args, below, meth, c, Q, A, H0, nL, D, tys, w⟩ := Γ
  obtain ⟨hx, hb, hml, hn, hown, hts, hK, hA, hR, hl0, hD0, hty, hw, hNW⟩ := C
  exact fun H locs ls hP hD hS hL => W.lcmp hx hb d (k H locs ls hP hD hS hL)
theorem J_i2l (C : CJ l0 Z w0 Γ cc own rm n) {a : Int32} {v : Int64} (d : decode cc pc = .ok (.i2l, 1)) (hv : a.toInt64 = v) (k : J Γ x (pc + 1) L (.long v :: st)) : J Γ x pc L (.int a :: st) := by
  obtain ⟨p, l, e, R, s, m, args, below, meth, c, Q, A, H0, nL, D, tys, w⟩ := Γ
  obtain ⟨hx, hb, hml, hn, hown, hts, hK, hA, hR, hl0, hD0, hty, hw, hNW⟩ := C
  exact fun H locs ls hP hD hS hL => lv_i2l hx hb d hv (k H locs ls hP hD hS hL)
theorem J_i2b (C : CJ l0 Z w0 Γ cc own rm n) {a v : Int32} (d : decode cc pc = .ok (.i2b, 1)) (hv : a.toInt8.toInt32 = v) (k : J Γ x (pc + 1) L (.int v :: st)) : J Γ x pc L (.int a :: st) := by
  obtain ⟨p, l, e, R, s, m, args, below, meth, c, Q, A, H0, nL, D, tys, w⟩ := Γ
  obtain ⟨hx, hb, hml, hn, hown, hts, hK, hA, hR, hl0, hD0, hty, hw, hNW⟩ := C
  exact fun H locs ls hP hD hS hL => lv_i2b hx hb d hv (k H locs ls hP hD hS hL)
theorem J_i2s (C : CJ l0 Z w0 Γ cc own rm n) {a v : Int32} (d : decode cc pc = .ok (.i2s, 1)) (hv : a.toInt16.toInt32 = v) (k : J Γ x (pc + 1) L (.int v :: st)) : J Γ x pc L (.int a :: st) := by
  obtain ⟨p, l, e, R, s, m, args, below, meth, c, Q, A, H0, nL, D, tys, w⟩ := Γ
  obtain ⟨hx, hb, hml, hn, hown, hts, hK, hA, hR, hl0, hD0, hty, hw, hNW⟩ := C
  exact fun H locs ls hP hD hS hL => lv_i2s hx hb d hv (k H locs ls hP hD hS hL)
theorem J_dup (C : CJ l0 Z w0 Γ cc own rm n) {v : Value} (d : decode cc pc = .ok (.dup, 1)) (hv : v.category = 1) (k : J Γ x (pc + 1) L (v :: v :: st)) : J Γ x pc L (v :: st) := by
  obtain ⟨p, l, e, R, s, m, args, below, meth, c, Q, A, H0, nL, D, tys, w⟩ := Γ
  obtain ⟨hx, hb, hml, hn, hown, hts, hK, hA, hR, hl0, hD0, hty, hw, hNW⟩ := C
  exact fun H locs ls hP hD hS hL => lv_dup hx hb d hv (k H locs ls hP hD hS hL)
theorem J_goto (C : CJ l0 Z w0 Γ cc own rm n) {off : Int} {tgt : Nat} (d : decode cc pc = .ok (.goto off, 3)) (ht : (pc : Int) + off = (tgt : Int)) (k : J Γ x tgt L st) : J Γ x pc L (st) := by
  obtain ⟨p, l, e, R, s, m, args, below, meth, c, Q, A, H0, nL, D, tys, w⟩ := Γ
  obtain ⟨hx, hb, hml, hn, hown, hts, hK, hA, hR, hl0, hD0, hty, hw, hNW⟩ := C
  exact fun H locs ls hP hD hS hL => lv_goto hx hb d ht (k H locs ls hP hD hS hL)
theorem J_istore_n (C : CJ l0 Z w0 Γ cc own rm n) {j : Fin 4} {i : Nat} {v : Int32} {L' : List (Option Value)} (d : decode cc pc = .ok (.istore_n j, 1)) (hj : (j : Nat) = i) (hi : i < n) (hc : chk L i = true) (hl : L.set i (some (.int v)) = L') (k : J Γ x (pc + 1) L' st) : J Γ x pc L (.int v :: st) := by
  obtain ⟨p, l, e, R, s, m, args, below, meth, c, Q, A, H0, nL, D, tys, w⟩ := Γ
  obtain ⟨hx, hb, hml, hn, hown, hts, hK, hA, hR, hl0, hD0, hty, hw, hNW⟩ := C
  exact fun H locs ls hP hD hS hL => lv_istore_n hx hb d hj hL.has (hn ▸ hi) rfl (fun ls hl2 => k H locs ls hP hD hS (hl ▸ LV.put hc hl2))
theorem J_istore (C : CJ l0 Z w0 Γ cc own rm n) {i : Nat} {v : Int32} {L' : List (Option Value)} (d : decode cc pc = .ok (.istore i, 2)) (hi : i < n) (hc : chk L i = true) (hl : L.set i (some (.int v)) = L') (k : J Γ x (pc + 2) L' st) : J Γ x pc L (.int v :: st) := by
  obtain ⟨p, l, e, R, s, m, args, below, meth, c, Q, A, H0, nL, D, tys, w⟩ := Γ
  obtain ⟨hx, hb, hml, hn, hown, hts, hK, hA, hR, hl0, hD0, hty, hw, hNW⟩ := C
  exact fun H locs ls hP hD hS hL => lv_istore hx hb d hL.has (hn ▸ hi) rfl (fun ls hl2 => k H locs ls hP hD hS (hl ▸ LV.put hc hl2))
theorem J_astore_n (C : CJ l0 Z w0 Γ cc own rm n) {j : Fin 4} {i : Nat} {v : Nat} {L' : List (Option Value)} (d : decode cc pc = .ok (.astore_n j, 1)) (hj : (j : Nat) = i) (hi : i < n) (hc : chk L i = true) (hl : L.set i (some (.ref v)) = L') (k : J Γ x (pc + 1) L' st) : J Γ x pc L (.ref v :: st) := by
  obtain ⟨p, l, e, R, s, m, args, below, meth, c, Q, A, H0, nL, D, tys, w⟩ := Γ
  obtain ⟨hx, hb, hml, hn, hown, hts, hK, hA, hR, hl0, hD0, hty, hw, hNW⟩ := C
  exact fun H locs ls hP hD hS hL => lv_astore_n hx hb d hj hL.has (hn ▸ hi) rfl (fun ls hl2 => k H locs ls hP hD hS (hl ▸ LV.put hc hl2))
theorem J_astore (C : CJ l0 Z w0 Γ cc own rm n) {i : Nat} {v : Nat} {L' : List (Option Value)} (d : decode cc pc = .ok (.astore i, 2)) (hi : i < n) (hc : chk L i = true) (hl : L.set i (some (.ref v)) = L') (k : J Γ x (pc + 2) L' st) : J Γ x pc L (.ref v :: st) := by
  obtain ⟨p, l, e, R, s, m, args, below, meth, c, Q, A, H0, nL, D, tys, w⟩ := Γ
  obtain ⟨hx, hb, hml, hn, hown, hts, hK, hA, hR, hl0, hD0, hty, hw, hNW⟩ := C
  exact fun H locs ls hP hD hS hL => lv_astore hx hb d hL.has (hn ▸ hi) rfl (fun ls hl2 => k H locs ls hP hD hS (hl ▸ LV.put hc hl2))
theorem J_lstore (C : CJ l0 Z w0 Γ cc own rm n) {i : Nat} {v : Int64} {L' : List (Option Value)} (d : decode cc pc = .ok (.lstore i, 2)) (hi : i + 1 < n) (hc : chk L i = true) (hl : (L.set i (some (.long v))).set (i + 1) none = L') (k : J Γ x (pc + 2) L' st) : J Γ x pc L (.long v :: st) := by
  obtain ⟨p, l, e, R, s, m, args, below, meth, c, Q, A, H0, nL, D, tys, w⟩ := Γ
  obtain ⟨hx, hb, hml, hn, hown, hts, hK, hA, hR, hl0, hD0, hty, hw, hNW⟩ := C
  exact fun H locs ls hP hD hS hL => lv_lstore hx hb d hL.has (hn ▸ hi) rfl (fun ls hl2 => k H locs ls hP hD hS (hl ▸ LV.put2 hc hl2))
theorem lvp_at {L : List (Option Value)} {i : Nat} {v : Value} (h : L[i]? = some (some v)) : ∃ k : Nat, (lvp L)[k]? = some (i, v) := List.getElem?_of_mem (lvp_mem h)
theorem J_iinc (C : CJ l0 Z w0 Γ cc own rm n) {i : Nat} {z : Int} {a v : Int32} {L' : List (Option Value)} (d : decode cc pc = .ok (.iinc i z, 3)) (h : L[i]? = some (some (.int a))) (hv : a + Int32.ofInt z = v) (hi : i < n) (hc : chk L i = true) (hl : L.set i (some (.int v)) = L') (k : J Γ x (pc + 3) L' st) : J Γ x pc L st := by
  obtain ⟨p, l, e, R, s, m, args, below, meth, c, Q, A, H0, nL, D, tys, w⟩ := Γ
  obtain ⟨hx, hb, hml, hn, hown, hts, hK, hA, hR, hl0, hD0, hty, hw, hNW⟩ := C
  obtain ⟨kk, hkk⟩ := lvp_at h
  exact fun H locs ls hP hD hS hL => lv_iinc hx hb d hL.has hkk hv (hn ▸ hi) rfl (fun ls hl2 => k H locs ls hP hD hS (hl ▸ LV.put hc hl2))
theorem J_icmp_eq (C : CJ l0 Z w0 Γ cc own rm n) {a b : Int32} {off : Int} {tgt : Nat} (d : decode cc pc = .ok (.if_icmp .eq off, 3)) (ht : (pc : Int) + off = (tgt : Int)) (kt : a = b → J Γ x tgt L st) (kf : ¬ a = b → J Γ x (pc + 3) L st) : J Γ x pc L (.int b :: .int a :: st) := by
  obtain ⟨p, l, e, R, s, m, args, below, meth, c, Q, A, H0, nL, D, tys, w⟩ := Γ
  obtain ⟨hx, hb, hml, hn, hown, hts, hK, hA, hR, hl0, hD0, hty, hw, hNW⟩ := C
  exact fun H locs ls hP hD hS hL => lv_icmp_eq hx hb d ht (fun hh => kt hh H locs ls hP hD hS hL) (fun hh => kf hh H locs ls hP hD hS hL)
theorem J_if_eq (C : CJ l0 Z w0 Γ cc own rm n) {a : Int32} {off : Int} {tgt : Nat} (d : decode cc pc = .ok (.ifCond .eq off, 3)) (ht : (pc : Int) + off = (tgt : Int)) (kt : a = 0 → J Γ x tgt L st) (kf : ¬ a = 0 → J Γ x (pc + 3) L st) : J Γ x pc L (.int a :: st) := by
  obtain ⟨p, l, e, R, s, m, args, below, meth, c, Q, A, H0, nL, D, tys, w⟩ := Γ
  obtain ⟨hx, hb, hml, hn, hown, hts, hK, hA, hR, hl0, hD0, hty, hw, hNW⟩ := C
  exact fun H locs ls hP hD hS hL => lv_if_eq hx hb d ht (fun hh => kt hh H locs ls hP hD hS hL) (fun hh => kf hh H locs ls hP hD hS hL)
theorem J_icmp_ne (C : CJ l0 Z w0 Γ cc own rm n) {a b : Int32} {off : Int} {tgt : Nat} (d : decode cc pc = .ok (.if_icmp .ne off, 3)) (ht : (pc : Int) + off = (tgt : Int)) (kt : ¬ a = b → J Γ x tgt L st) (kf : a = b → J Γ x (pc + 3) L st) : J Γ x pc L (.int b :: .int a :: st) := by
  obtain ⟨p, l, e, R, s, m, args, below, meth, c, Q, A, H0, nL, D, tys, w⟩ := Γ
  obtain ⟨hx, hb, hml, hn, hown, hts, hK, hA, hR, hl0, hD0, hty, hw, hNW⟩ := C
  exact fun H locs ls hP hD hS hL => lv_icmp_ne hx hb d ht (fun hh => kt hh H locs ls hP hD hS hL) (fun hh => kf hh H locs ls hP hD hS hL)
theorem J_if_ne (C : CJ l0 Z w0 Γ cc own rm n) {a : Int32} {off : Int} {tgt : Nat} (d : decode cc pc = .ok (.ifCond .ne off, 3)) (ht : (pc : Int) + off = (tgt : Int)) (kt : ¬ a = 0 → J Γ x tgt L st) (kf : a = 0 → J Γ x (pc + 3) L st) : J Γ x pc L (.int a :: st) := by
  obtain ⟨p, l, e, R, s, m, args, below, meth, c, Q, A, H0, nL, D, tys, w⟩ := Γ
  obtain ⟨hx, hb, hml, hn, hown, hts, hK, hA, hR, hl0, hD0, hty, hw, hNW⟩ := C
  exact fun H locs ls hP hD hS hL => lv_if_ne hx hb d ht (fun hh => kt hh H locs ls hP hD hS hL) (fun hh => kf hh H locs ls hP hD hS hL)
theorem J_icmp_lt (C : CJ l0 Z w0 Γ cc own rm n) {a b : Int32} {off : Int} {tgt : Nat} (d : decode cc pc = .ok (.if_icmp .lt off, 3)) (ht : (pc : Int) + off = (tgt : Int)) (kt : a < b → J Γ x tgt L st) (kf : ¬ a < b → J Γ x (pc + 3) L st) : J Γ x pc L (.int b :: .int a :: st) := by
  obtain ⟨p, l, e, R, s, m, args, below, meth, c, Q, A, H0, nL, D, tys, w⟩ := Γ
  obtain ⟨hx, hb, hml, hn, hown, hts, hK, hA, hR, hl0, hD0, hty, hw, hNW⟩ := C
  exact fun H locs ls hP hD hS hL => lv_icmp_lt hx hb d ht (fun hh => kt hh H locs ls hP hD hS hL) (fun hh => kf hh H locs ls hP hD hS hL)
theorem J_if_lt (C : CJ l0 Z w0 Γ cc own rm n) {a : Int32} {off : Int} {tgt : Nat} (d : decode cc pc = .ok (.ifCond .lt off, 3)) (ht : (pc : Int) + off = (tgt : Int)) (kt : a < 0 → J Γ x tgt L st) (kf : ¬ a < 0 → J Γ x (pc + 3) L st) : J Γ x pc L (.int a :: st) := by
  obtain ⟨p, l, e, R, s, m, args, below, meth, c, Q, A, H0, nL, D, tys, w⟩ := Γ
  obtain ⟨hx, hb, hml, hn, hown, hts, hK, hA, hR, hl0, hD0, hty, hw, hNW⟩ := C
  exact fun H locs ls hP hD hS hL => lv_if_lt hx hb d ht (fun hh => kt hh H locs ls hP hD hS hL) (fun hh => kf hh H locs ls hP hD hS hL)
theorem J_icmp_ge (C : CJ l0 Z w0 Γ cc own rm n) {a b : Int32} {off : Int} {tgt : Nat} (d : decode cc pc = .ok (.if_icmp .ge off, 3)) (ht : (pc : Int) + off = (tgt : Int)) (kt : b ≤ a → J Γ x tgt L st) (kf : ¬ b ≤ a → J Γ x (pc + 3) L st) : J Γ x pc L (.int b :: .int a :: st) := by
  obtain ⟨p, l, e, R, s, m, args, below, meth, c, Q, A, H0, nL, D, tys, w⟩ := Γ
  obtain ⟨hx, hb, hml, hn, hown, hts, hK, hA, hR, hl0, hD0, hty, hw, hNW⟩ := C
  exact fun H locs ls hP hD hS hL => lv_icmp_ge hx hb d ht (fun hh => kt hh H locs ls hP hD hS hL) (fun hh => kf hh H locs ls hP hD hS hL)
theorem J_if_ge (C : CJ l0 Z w0 Γ cc own rm n) {a : Int32} {off : Int} {tgt : Nat} (d : decode cc pc = .ok (.ifCond .ge off, 3)) (ht : (pc : Int) + off = (tgt : Int)) (kt : 0 ≤ a → J Γ x tgt L st) (kf : ¬ 0 ≤ a → J Γ x (pc + 3) L st) : J Γ x pc L (.int a :: st) := by
  obtain ⟨p, l, e, R, s, m, args, below, meth, c, Q, A, H0, nL, D, tys, w⟩ := Γ
  obtain ⟨hx, hb, hml, hn, hown, hts, hK, hA, hR, hl0, hD0, hty, hw, hNW⟩ := C
  exact fun H locs ls hP hD hS hL => lv_if_ge hx hb d ht (fun hh => kt hh H locs ls hP hD hS hL) (fun hh => kf hh H locs ls hP hD hS hL)
theorem J_icmp_gt (C : CJ l0 Z w0 Γ cc own rm n) {a b : Int32} {off : Int} {tgt : Nat} (d : decode cc pc = .ok (.if_icmp .gt off, 3)) (ht : (pc : Int) + off = (tgt : Int)) (kt : b < a → J Γ x tgt L st) (kf : ¬ b < a → J Γ x (pc + 3) L st) : J Γ x pc L (.int b :: .int a :: st) := by
  obtain ⟨p, l, e, R, s, m, args, below, meth, c, Q, A, H0, nL, D, tys, w⟩ := Γ
  obtain ⟨hx, hb, hml, hn, hown, hts, hK, hA, hR, hl0, hD0, hty, hw, hNW⟩ := C
  exact fun H locs ls hP hD hS hL => lv_icmp_gt hx hb d ht (fun hh => kt hh H locs ls hP hD hS hL) (fun hh => kf hh H locs ls hP hD hS hL)
theorem J_if_gt (C : CJ l0 Z w0 Γ cc own rm n) {a : Int32} {off : Int} {tgt : Nat} (d : decode cc pc = .ok (.ifCond .gt off, 3)) (ht : (pc : Int) + off = (tgt : Int)) (kt : 0 < a → J Γ x tgt L st) (kf : ¬ 0 < a → J Γ x (pc + 3) L st) : J Γ x pc L (.int a :: st) := by
  obtain ⟨p, l, e, R, s, m, args, below, meth, c, Q, A, H0, nL, D, tys, w⟩ := Γ
  obtain ⟨hx, hb, hml, hn, hown, hts, hK, hA, hR, hl0, hD0, hty, hw, hNW⟩ := C
  exact fun H locs ls hP hD hS hL => lv_if_gt hx hb d ht (fun hh => kt hh H locs ls hP hD hS hL) (fun hh => kf hh H locs ls hP hD hS hL)
theorem J_icmp_le (C : CJ l0 Z w0 Γ cc own rm n) {a b : Int32} {off : Int} {tgt : Nat} (d : decode cc pc = .ok (.if_icmp .le off, 3)) (ht : (pc : Int) + off = (tgt : Int)) (kt : a ≤ b → J Γ x tgt L st) (kf : ¬ a ≤ b → J Γ x (pc + 3) L st) : J Γ x pc L (.int b :: .int a :: st) := by
  obtain ⟨p, l, e, R, s, m, args, below, meth, c, Q, A, H0, nL, D, tys, w⟩ := Γ
  obtain ⟨hx, hb, hml, hn, hown, hts, hK, hA, hR, hl0, hD0, hty, hw, hNW⟩ := C
  exact fun H locs ls hP hD hS hL => lv_icmp_le hx hb d ht (fun hh => kt hh H locs ls hP hD hS hL) (fun hh => kf hh H locs ls hP hD hS hL)
theorem J_if_le (C : CJ l0 Z w0 Γ cc own rm n) {a : Int32} {off : Int} {tgt : Nat} (d : decode cc pc = .ok (.ifCond .le off, 3)) (ht : (pc : Int) + off = (tgt : Int)) (kt : a ≤ 0 → J Γ x tgt L st) (kf : ¬ a ≤ 0 → J Γ x (pc + 3) L st) : J Γ x pc L (.int a :: st) := by
  obtain ⟨p, l, e, R, s, m, args, below, meth, c, Q, A, H0, nL, D, tys, w⟩ := Γ
  obtain ⟨hx, hb, hml, hn, hown, hts, hK, hA, hR, hl0, hD0, hty, hw, hNW⟩ := C
  exact fun H locs ls hP hD hS hL => lv_if_le hx hb d ht (fun hh => kt hh H locs ls hP hD hS hL) (fun hh => kf hh H locs ls hP hD hS hL)
theorem nI_eq0 {i : Nat} (hi : i < 2147483648) : nI i = 0 ↔ i = 0 := nI_eq (b := 0) hi (by decide)
theorem nI_lt0 {i : Nat} (hi : i < 2147483648) : ¬ nI i < 0 := fun h => absurd ((nI_ltI (b := 0) hi (by decide)).mp h) (Nat.not_lt_zero _)
theorem nI_gt0 {i : Nat} (hi : i < 2147483648) : 0 < nI i ↔ 0 < i := nI_ltI (a := 0) (by decide) hi
theorem nI_le0 {i : Nat} (hi : i < 2147483648) : nI i ≤ 0 ↔ i ≤ 0 := nI_leI (b := 0) hi (by decide)
theorem J_icmp_eq_n (C : CJ l0 Z w0 Γ cc own rm n) {i j : Nat} {off : Int} {tgt : Nat} (d : decode cc pc = .ok (.if_icmp .eq off, 3)) (ht : (pc : Int) + off = (tgt : Int)) (hi : i < 2147483648) (hj : j < 2147483648) (kt : i = j → J Γ x tgt L st) (kf : i ≠ j → J Γ x (pc + 3) L st) : J Γ x pc L (.int (nI j) :: .int (nI i) :: st) :=
  J_icmp_eq C d ht (fun hh => kt ((nI_eq hi hj).mp hh)) (fun hh => kf ((fun e => hh ((nI_eq hi hj).mpr e))))
theorem J_icmp_ne_n (C : CJ l0 Z w0 Γ cc own rm n) {i j : Nat} {off : Int} {tgt : Nat} (d : decode cc pc = .ok (.if_icmp .ne off, 3)) (ht : (pc : Int) + off = (tgt : Int)) (hi : i < 2147483648) (hj : j < 2147483648) (kt : i ≠ j → J Γ x tgt L st) (kf : i = j → J Γ x (pc + 3) L st) : J Γ x pc L (.int (nI j) :: .int (nI i) :: st) :=
  J_icmp_ne C d ht (fun hh => kt ((fun e => hh ((nI_eq hi hj).mpr e)))) (fun hh => kf ((nI_eq hi hj).mp hh))
theorem J_icmp_lt_n (C : CJ l0 Z w0 Γ cc own rm n) {i j : Nat} {off : Int} {tgt : Nat} (d : decode cc pc = .ok (.if_icmp .lt off, 3)) (ht : (pc : Int) + off = (tgt : Int)) (hi : i < 2147483648) (hj : j < 2147483648) (kt : i < j → J Γ x tgt L st) (kf : j ≤ i → J Γ x (pc + 3) L st) : J Γ x pc L (.int (nI j) :: .int (nI i) :: st) :=
  J_icmp_lt C d ht (fun hh => kt ((nI_ltI hi hj).mp hh)) (fun hh => kf ((Nat.le_of_not_lt (fun e => hh ((nI_ltI hi hj).mpr e)))))
theorem J_icmp_ge_n (C : CJ l0 Z w0 Γ cc own rm n) {i j : Nat} {off : Int} {tgt : Nat} (d : decode cc pc = .ok (.if_icmp .ge off, 3)) (ht : (pc : Int) + off = (tgt : Int)) (hi : i < 2147483648) (hj : j < 2147483648) (kt : j ≤ i → J Γ x tgt L st) (kf : i < j → J Γ x (pc + 3) L st) : J Γ x pc L (.int (nI j) :: .int (nI i) :: st) :=
  J_icmp_ge C d ht (fun hh => kt ((nI_leI hj hi).mp hh)) (fun hh => kf ((Nat.lt_of_not_le (fun e => hh ((nI_leI hj hi).mpr e)))))
theorem J_icmp_gt_n (C : CJ l0 Z w0 Γ cc own rm n) {i j : Nat} {off : Int} {tgt : Nat} (d : decode cc pc = .ok (.if_icmp .gt off, 3)) (ht : (pc : Int) + off = (tgt : Int)) (hi : i < 2147483648) (hj : j < 2147483648) (kt : j < i → J Γ x tgt L st) (kf : i ≤ j → J Γ x (pc + 3) L st) : J Γ x pc L (.int (nI j) :: .int (nI i) :: st) :=
  J_icmp_gt C d ht (fun hh => kt ((nI_ltI hj hi).mp hh)) (fun hh => kf ((Nat.le_of_not_lt (fun e => hh ((nI_ltI hj hi).mpr e)))))
theorem J_icmp_le_n (C : CJ l0 Z w0 Γ cc own rm n) {i j : Nat} {off : Int} {tgt : Nat} (d : decode cc pc = .ok (.if_icmp .le off, 3)) (ht : (pc : Int) + off = (tgt : Int)) (hi : i < 2147483648) (hj : j < 2147483648) (kt : i ≤ j → J Γ x tgt L st) (kf : j < i → J Γ x (pc + 3) L st) : J Γ x pc L (.int (nI j) :: .int (nI i) :: st) :=
  J_icmp_le C d ht (fun hh => kt ((nI_leI hi hj).mp hh)) (fun hh => kf ((Nat.lt_of_not_le (fun e => hh ((nI_leI hi hj).mpr e)))))
theorem J_if_eq_n (C : CJ l0 Z w0 Γ cc own rm n) {i : Nat} {off : Int} {tgt : Nat} (d : decode cc pc = .ok (.ifCond .eq off, 3)) (ht : (pc : Int) + off = (tgt : Int)) (hi : i < 2147483648) (kt : i = 0 → J Γ x tgt L st) (kf : i ≠ 0 → J Γ x (pc + 3) L st) : J Γ x pc L (.int (nI i) :: st) :=
  J_if_eq C d ht (fun hh => kt ((nI_eq0 hi).mp hh)) (fun hh => kf (fun e => hh ((nI_eq0 hi).mpr e)))
theorem J_if_ne_n (C : CJ l0 Z w0 Γ cc own rm n) {i : Nat} {off : Int} {tgt : Nat} (d : decode cc pc = .ok (.ifCond .ne off, 3)) (ht : (pc : Int) + off = (tgt : Int)) (hi : i < 2147483648) (kt : i ≠ 0 → J Γ x tgt L st) (kf : i = 0 → J Γ x (pc + 3) L st) : J Γ x pc L (.int (nI i) :: st) :=
  J_if_ne C d ht (fun hh => kt (fun e => hh ((nI_eq0 hi).mpr e))) (fun hh => kf ((nI_eq0 hi).mp hh))
theorem J_if_gt_n (C : CJ l0 Z w0 Γ cc own rm n) {i : Nat} {off : Int} {tgt : Nat} (d : decode cc pc = .ok (.ifCond .gt off, 3)) (ht : (pc : Int) + off = (tgt : Int)) (hi : i < 2147483648) (kt : 0 < i → J Γ x tgt L st) (kf : i = 0 → J Γ x (pc + 3) L st) : J Γ x pc L (.int (nI i) :: st) :=
  J_if_gt C d ht (fun hh => kt ((nI_gt0 hi).mp hh)) (fun hh => kf (Nat.eq_zero_of_not_pos (fun e => hh ((nI_gt0 hi).mpr e))))
theorem J_if_le_n (C : CJ l0 Z w0 Γ cc own rm n) {i : Nat} {off : Int} {tgt : Nat} (d : decode cc pc = .ok (.ifCond .le off, 3)) (ht : (pc : Int) + off = (tgt : Int)) (hi : i < 2147483648) (kt : i = 0 → J Γ x tgt L st) (kf : 0 < i → J Γ x (pc + 3) L st) : J Γ x pc L (.int (nI i) :: st) :=
  J_if_le C d ht (fun hh => kt (Nat.eq_zero_of_le_zero ((nI_le0 hi).mp hh))) (fun hh => kf (Nat.pos_of_ne_zero (fun e => hh ((nI_le0 hi).mpr (Nat.le_of_eq e)))))
theorem J_if_ge_n (C : CJ l0 Z w0 Γ cc own rm n) {i : Nat} {off : Int} {tgt : Nat} (d : decode cc pc = .ok (.ifCond .ge off, 3)) (ht : (pc : Int) + off = (tgt : Int)) (hi : i < 2147483648) (kt : J Γ x tgt L st) : J Γ x pc L (.int (nI i) :: st) :=
  J_if_ge C d ht (fun _ => kt) (fun hh => absurd ((nI_leI (a := 0) (by decide) hi).mpr (Nat.zero_le i)) hh)
theorem J_if_lt_n (C : CJ l0 Z w0 Γ cc own rm n) {i : Nat} {off : Int} {tgt : Nat} (d : decode cc pc = .ok (.ifCond .lt off, 3)) (ht : (pc : Int) + off = (tgt : Int)) (hi : i < 2147483648) (kf : J Γ x (pc + 3) L st) : J Γ x pc L (.int (nI i) :: st) :=
  J_if_lt C d ht (fun hh => absurd hh (nI_lt0 hi)) (fun _ => kf)
def b2i (b : Bool) : Int32 := if b then 1 else 0
theorem b2i_eq (b : Bool) : b2i b = 0 ↔ b = false := by cases b <;> decide
theorem b2i_nar (b : Bool) : narrow .boolean (.int (b2i b)) = .int (b2i b) := by cases b <;> rfl
theorem b2i_fit (b : Bool) : fits .boolean (.int (b2i b)) = true := by cases b <;> rfl
theorem b2i_nI (b : Bool) : b2i b = nI (if b then 1 else 0) := by cases b <;> rfl
theorem J_if_eq_b (C : CJ l0 Z w0 Γ cc own rm n) {b : Bool} {off : Int} {tgt : Nat} (d : decode cc pc = .ok (.ifCond .eq off, 3)) (ht : (pc : Int) + off = (tgt : Int)) (kt : b = false → J Γ x tgt L st) (kf : b = true → J Γ x (pc + 3) L st) : J Γ x pc L (.int (b2i b) :: st) :=
  J_if_eq C d ht (fun hh => kt ((b2i_eq b).mp hh)) (fun hh => kf (by cases b; exact absurd rfl hh; rfl))
theorem J_if_ne_b (C : CJ l0 Z w0 Γ cc own rm n) {b : Bool} {off : Int} {tgt : Nat} (d : decode cc pc = .ok (.ifCond .ne off, 3)) (ht : (pc : Int) + off = (tgt : Int)) (kt : b = true → J Γ x tgt L st) (kf : b = false → J Γ x (pc + 3) L st) : J Γ x pc L (.int (b2i b) :: st) :=
  J_if_ne C d ht (fun hh => kt (by cases b; exact absurd rfl hh; rfl)) (fun hh => kf ((b2i_eq b).mp hh))
theorem J_if_eq_d (C : CJ l0 Z w0 Γ cc own rm n) {q : Prop} {iq : Decidable q} {off : Int} {tgt : Nat} (d : decode cc pc = .ok (.ifCond .eq off, 3)) (ht : (pc : Int) + off = (tgt : Int)) (kt : ¬ q → J Γ x tgt L st) (kf : q → J Γ x (pc + 3) L st) : J Γ x pc L (.int (b2i (decide q)) :: st) := J_if_eq_b C d ht (fun hh => kt (of_decide_eq_false hh)) (fun hh => kf (of_decide_eq_true hh))
theorem J_if_ne_d (C : CJ l0 Z w0 Γ cc own rm n) {q : Prop} {iq : Decidable q} {off : Int} {tgt : Nat} (d : decode cc pc = .ok (.ifCond .ne off, 3)) (ht : (pc : Int) + off = (tgt : Int)) (kt : q → J Γ x tgt L st) (kf : ¬ q → J Γ x (pc + 3) L st) : J Γ x pc L (.int (b2i (decide q)) :: st) := J_if_ne_b C d ht (fun hh => kt (of_decide_eq_true hh)) (fun hh => kf (of_decide_eq_false hh))
theorem J_tabOut (C : CJ l0 Z w0 Γ cc own rm n) {dflt lo hi : Int} {offs : Array Int} {len : Nat} {v : Int32} {tgt : Nat} (d : decode cc pc = .ok (.tableswitch dflt lo hi offs, len)) (h : v.toInt < lo ∨ hi < v.toInt) (ht : (pc : Int) + dflt = (tgt : Int)) (k : J Γ x tgt L st) : J Γ x pc L (.int v :: st) := by
  obtain ⟨p, l, e, R, s, m, args, below, meth, c, Q, A, H0, nL, D, tys, w⟩ := Γ
  obtain ⟨hx, hb, hml, hn, hown, hts, hK, hA, hR, hl0, hD0, hty, hw, hNW⟩ := C
  exact fun H locs ls hP hD hS hL => lv_tableOut hx hb d h ht (k H locs ls hP hD hS hL)
theorem J_tabIn (C : CJ l0 Z w0 Γ cc own rm n) {dflt lo hi : Int} {offs : Array Int} {len : Nat} {v : Int32} {off : Int} {tgt : Nat} (d : decode cc pc = .ok (.tableswitch dflt lo hi offs, len)) (h1 : ¬ v.toInt < lo) (h2 : ¬ hi < v.toInt) (ho : offs[(v.toInt - lo).toNat]? = some off) (ht : (pc : Int) + off = (tgt : Int)) (k : J Γ x tgt L st) : J Γ x pc L (.int v :: st) := by
  obtain ⟨p, l, e, R, s, m, args, below, meth, c, Q, A, H0, nL, D, tys, w⟩ := Γ
  obtain ⟨hx, hb, hml, hn, hown, hts, hK, hA, hR, hl0, hD0, hty, hw, hNW⟩ := C
  exact fun H locs ls hP hD hS hL => lv_tableIn hx hb d h1 h2 ho ht (k H locs ls hP hD hS hL)
theorem J_lookup (C : CJ l0 Z w0 Γ cc own rm n) {dflt : Int} {ps : Array (Int × Int)} {len : Nat} {v : Int32} {off : Int} {tgt : Nat} (d : decode cc pc = .ok (.lookupswitch dflt ps, len)) (hp : (ps.toList.zip (ps.toList.drop 1)).all (fun (a, next) => a.1 < next.1) = true) (ho : Op.lookupswitch.offset ps.toList dflt v.toInt = off) (ht : (pc : Int) + off = (tgt : Int)) (k : J Γ x tgt L st) : J Γ x pc L (.int v :: st) := by
  obtain ⟨p, l, e, R, s, m, args, below, meth, c, Q, A, H0, nL, D, tys, w⟩ := Γ
  obtain ⟨hx, hb, hml, hn, hown, hts, hK, hA, hR, hl0, hD0, hty, hw, hNW⟩ := C
  exact fun H locs ls hP hD hS hL => lv_lookup hx hb d hp ho ht (k H locs ls hP hD hS hL)
theorem J_get (C : CJ l0 Z w0 Γ cc own rm n) {ref Cn : String} {T : u_T} {N ci index : Nat} (hin : ∀ w ∈ u_ws Cn T N, w ∈ wsL_law) (q0 : Nat) {a : Nat} {fs : List Value} (he : (w0 x)[q0]? = some (a, .inr (ci, fs))) (hc : vwCl[ci]? = some (Cn, T, N)) (j : Nat) (hj : j < N) (hl : Cond.fieldLink own index ref (T j).2.1 (T j).2.2.1 ∈ wsL_law) (hr : (T j).1 = ref) {v : Value} (hv : fs[j]? = some v) (d : decode cc pc = .ok (.getfield index, 3)) (k : J Γ x (pc + 3) L (v :: st)) : J Γ x pc L (.ref a :: st) := by
  obtain ⟨p, l, e, R, s, m, args, below, meth, c, Q, A, H0, nL, D, tys, w⟩ := Γ
  obtain ⟨hx, hb, hml, hn, hown, hts, hK, hA, hR, hl0, hD0, hty, hw, hNW⟩ := C
  subst hw
  subst hty
  subst hD0
  exact fun H locs ls hP hD hS hL => va_get hx hb hts hin hown hK hP q0 he hc j hj (hts _ hl) (fun y hy => by rw [← hr]; exact hy) hv d (k H locs ls hP hD hS hL)
theorem J_put (C : CJ l0 Z w0 Γ cc own rm n) {ref Cn : String} {T : u_T} {N ci index : Nat} (hin : ∀ w ∈ u_ws Cn T N, w ∈ wsL_law) (ty0 : Nat → FieldType) (hty0 : ∀ k, k < N → parseFieldDescriptor (T k).2.2.1 = some (ty0 k)) (hnm : ∀ a, a < N → ∀ b, b < N → a ≠ b → (T a).2.1 ≠ (T b).2.1) (q0 : Nat) {a : Nat} {fs : List Value} (he : (w0 x)[q0]? = some (a, .inr (ci, fs))) (hc : vwCl[ci]? = some (Cn, T, N)) (j : Nat) (hj : j < N) (hl : Cond.fieldLink own index ref (T j).2.1 (T j).2.2.1 ∈ wsL_law) (hr : (T j).1 = ref) (hfin : (T j).2.2.2 = false) {ty : FieldType} {v : Value} (hd : parseFieldDescriptor (T j).2.2.1 = some ty) (hna : narrow ty v = v) (hfit : fits ty v = true) (hfl : j < fs.length) {x1 : X} (hx1 : (w0 x).set q0 (a, .inr (ci, fs.set j v)) = w0 x1) (d : decode cc pc = .ok (.putfield index, 3)) (k : J Γ x1 (pc + 3) L st) : J Γ x pc L (v :: .ref a :: st) := by
  obtain ⟨p, l, e, R, s, m, args, below, meth, c, Q, A, H0, nL, D, tys, w⟩ := Γ
  obtain ⟨hx, hb, hml, hn, hown, hts, hK, hA, hR, hl0, hD0, hty, hw, hNW⟩ := C
  subst hw
  subst hty
  subst hD0
  exact fun H locs ls hP hD hS hL => va_put hx hb hts hin ty0 hty0 hnm hown hK hP hD hS q0 he hc j hj (hts _ hl) (fun y hy => by rw [← hr]; exact hy) hfin hd hna hfit hfl d (fun H1 locs1 hP1 hD1 hS1 => k H1 locs1 ls (by rw [← hx1]; exact hP1) (by rw [← hx1]; exact hD1) hS1 hL)
theorem J_iald (C : CJ l0 Z w0 Γ cc own rm n) (q0 : Nat) {a len : Nat} {f : Nat → Int32} (he : (w0 x)[q0]? = some (a, .inl (Z.2.2.1, len, .inl f))) {i v : Int32} (hi : vp_in i len) (hv : f i.toNatClampNeg = v) (d : decode cc pc = .ok (.iaload, 1)) (k : J Γ x (pc + 1) L (.int v :: st)) : J Γ x pc L (.int i :: .ref a :: st) := by
  obtain ⟨p, l, e, R, s, m, args, below, meth, c, Q, A, H0, nL, D, tys, w⟩ := Γ
  obtain ⟨hx, hb, hml, hn, hown, hts, hK, hA, hR, hl0, hD0, hty, hw, hNW⟩ := C
  subst hw
  subst hty
  subst hD0
  exact fun H locs ls hP hD hS hL => va_iald hx hb hK hP q0 0 he rfl hi d (hv ▸ k H locs ls hP hD hS hL)
theorem J_iast (C : CJ l0 Z w0 Γ cc own rm n) (q0 : Nat) {a len : Nat} {f : Nat → Int32} (he : (w0 x)[q0]? = some (a, .inl (Z.2.2.1, len, .inl f))) {i v : Int32} (hi : vp_in i len) {x1 : X} (hx1 : (w0 x).set q0 (a, .inl (Z.2.2.1, len, .inl (upd f i.toNatClampNeg v))) = w0 x1) (d : decode cc pc = .ok (.iastore, 1)) (k : J Γ x1 (pc + 1) L st) : J Γ x pc L (.int v :: .int i :: .ref a :: st) := by
  obtain ⟨p, l, e, R, s, m, args, below, meth, c, Q, A, H0, nL, D, tys, w⟩ := Γ
  obtain ⟨hx, hb, hml, hn, hown, hts, hK, hA, hR, hl0, hD0, hty, hw, hNW⟩ := C
  subst hw
  subst hty
  subst hD0
  exact fun H locs ls hP hD hS hL => va_iast hx hb hK hP hD hS q0 0 he rfl hi d (fun H1 locs1 hP1 hD1 hS1 => k H1 locs1 ls (by rw [← hx1]; exact hP1) (by rw [← hx1]; exact hD1) hS1 hL)
theorem J_aald (C : CJ l0 Z w0 Γ cc own rm n) (q0 t0 : Nat) {a len : Nat} {cA : ClassId} {ty : FieldType} {f : Nat → Option Nat} (he : (w0 x)[q0]? = some (a, .inl (cA, len, .inr (.inr (.inr (.inr f)))))) (hty1 : ty.isReference = true) (ht : (tyZ Z)[t0]? = some (cA, ty)) {i : Int32} (hi : vp_in i len) {b : Nat} (hv : f i.toNatClampNeg = some b) (d : decode cc pc = .ok (.aaload, 1)) (k : J Γ x (pc + 1) L (.ref b :: st)) : J Γ x pc L (.int i :: .ref a :: st) := by
  obtain ⟨p, l, e, R, s, m, args, below, meth, c, Q, A, H0, nL, D, tys, w⟩ := Γ
  obtain ⟨hx, hb, hml, hn, hown, hts, hK, hA, hR, hl0, hD0, hty, hw, hNW⟩ := C
  subst hw
  subst hty
  subst hD0
  have hlt : i.toNatClampNeg < len := Nat.not_le.mp fun q => hi (Or.inr q)
  exact fun H locs ls hP hD hS hL => W.aald (v := .ref b) (ty := ty) hx hb (hP q0 _ he) ((hK.2 t0 _ ht).1 len (fun j => va_rf (f j))) hty1 (fun q => by cases q) (by show ¬ (i < 0 ∨ (arrV _ _ _).slots.size ≤ _); rw [arrV_size]; exact hi) (by show (arrV _ _ _).slots[_]? = _; rw [arrV_read _ _ hlt, hv]; rfl) rfl rfl d (k H locs ls hP hD hS hL)
theorem J_abs (C : CJ l0 Z w0 Γ cc own rm n) {idx : Nat} {a v : Int32} (hl : Cond.methodLink own idx Lib.Math.abs.name ∈ wsL_law) (h1 : Cond.static Lib.Math.abs.name ∈ wsL_law) (h2 : Cond.initialized "java/lang/Math" ∈ wsL_law) (h3 : Cond.code Lib.Math.abs.name Lib.Math.abs.code 1 (some .int) ∈ wsL_law) (hf : 1 ≤ rm.frames) (hlo : (st.map fun v => v.category).sum + 13 ≤ rm.locals) (d : decode cc pc = .ok (.invokestatic idx, 3)) (hv : (if 0 ≤ a then a else 0 - a) = v) (k : J Γ x (pc + 3) L (.int v :: st)) : J Γ x pc L (.int a :: st) := by
  obtain ⟨p, l, e, R, s, m, args, below, meth, c, Q, A, H0, nL, D, tys, w⟩ := Γ
  obtain ⟨hx, hb, hml, hn, hown, hts, hK, hA, hR, hl0, hD0, hty, hw, hNW⟩ := C
  subst hR
  exact fun H locs ls hP hD hS hL => va_mabs hx hb (hml.trans hL.1.symm) hown (hts _ hl) (hts _ h1) (hts _ h2) (hts _ h3) hf hlo (Nat.zero_le _) (Nat.zero_le _) d (hv ▸ k H locs ls hP hD hS hL)
end JR
/-! contracts over such a world, and their calls -/
def Pw {X : Type} (Z : EC) (w : X → va_W) (x : X) (sz : Nat) : State → Prop := fun U => U.heap.size = sz ∧ va_P Z.1 vwCl (w x) U.heap ∧ va_K Z.1 vwCl (tyZ Z) U ∧ va_D (fun _ => True) (w x) ∧ NW U
def Bw {X : Type} (Z : EC) (w : X → va_W) (x : X) (sz : Nat) : X → State → Prop := fun x1 t => va_P Z.1 vwCl (w x1) t.heap ∧ va_K Z.1 vwCl (tyZ Z) t ∧ va_D (va_A (w x) sz) (w x1)
def MIi {X : Type} (l : Launch) (Z : EC) (w : X → va_W) (y : MethodName) (cb : ByteArray) (mL : Nat) (rm : Room) (As : List Value) (x : X) (post : Int32 → X → Prop) : Prop := ∀ sz : Nat, Met l y (Cond.code y cb mL (some .int) :: wsL_law) rm (va_Pc As (Pw Z w x sz)) (va_Qi post (Bw Z w x sz) (va_A (w x) sz)) 0 0 (va_A (w x) sz)
def MIz {X : Type} (l : Launch) (Z : EC) (w : X → va_W) (y : MethodName) (cb : ByteArray) (mL : Nat) (rm : Room) (As : List Value) (x : X) (post : Bool → X → Prop) : Prop := ∀ sz : Nat, Met l y (Cond.code y cb mL (some .boolean) :: wsL_law) rm (va_Pc As (Pw Z w x sz)) (va_Qi (fun r x1 => ∃ b : Bool, r = b2i b ∧ post b x1) (Bw Z w x sz) (va_A (w x) sz)) 0 0 (va_A (w x) sz)
def MIl {X : Type} (l : Launch) (Z : EC) (w : X → va_W) (y : MethodName) (cb : ByteArray) (mL : Nat) (rm : Room) (As : List Value) (x : X) (post : Int64 → X → Prop) : Prop := ∀ sz : Nat, Met l y (Cond.code y cb mL (some .long) :: wsL_law) rm (va_Pc As (Pw Z w x sz)) (va_Ql post (Bw Z w x sz) (va_A (w x) sz)) 0 0 (va_A (w x) sz)
def MIv {X : Type} (l : Launch) (Z : EC) (w : X → va_W) (y : MethodName) (cb : ByteArray) (mL : Nat) (rm : Room) (As : List Value) (x : X) (post : X → Prop) : Prop := ∀ sz : Nat, Met l y (Cond.code y cb mL none :: wsL_law) rm (va_Pc As (Pw Z w x sz)) (va_Qv post (Bw Z w x sz) (va_A (w x) sz)) 0 0 (va_A (w x) sz)
def CWB (own : String) (idx : Nat) (y : MethodName) (cb : ByteArray) (mL : Nat) (ret : Option FieldType) (na : Nat) : Prop := Cond.methodLink own idx y ∈ wsL_law ∧ Cond.initialized y.cls ∈ wsL_law ∧ Cond.code y cb mL ret ∈ wsL_law ∧ y.cls ≠ "java/lang/invoke/MethodHandle" ∧ y.cls ≠ "java/lang/invoke/VarHandle" ∧ (parseMethodDescriptor y.desc).map (fun d => d.parameters.length) = some na
theorem wsL_good : wsL_law.all goodWord = true := by decide +kernel
theorem goodG {w : Cond} (h : w ∈ wsL_law) : GoodIn wsL_law (w :: wsL_law) := fun u hu => by
  have hm : u ∈ wsL_law := by
    rcases List.mem_cons.mp hu with e | e
    · rw [e]; exact h
    · exact e
  exact ⟨hm, good_of_word (List.all_eq_true.mp wsL_good u hm)⟩
theorem cwb_of {R : Room} {s : State} {args : Array Value} {own : String} {idx : Nat} {y : MethodName} {cb : ByteArray} {mL : Nat} {ret : Option FieldType} {na : Nat} {rm : Room} (hts : ∀ w ∈ wsL_law, w.before args s = true) (h : CWB own idx y cb mL ret na) (hc : rm.cells = 0) (hs : rm.slots = 0) (hf : rm.frames + 1 ≤ R.frames) (hlo : 8 + (mL + 11) + rm.locals ≤ R.locals) : CallB R s args own idx y cb mL ret (Cond.code y cb mL ret :: wsL_law) rm 0 0 na := by
  obtain ⟨h1, h2, h3, h4, h5, h6⟩ := h
  refine ⟨hc, hs, hf, hlo, pay_in hts (goodG h3), List.mem_cons_self, hts _ h3, hts _ h2, ⟨h4, h5⟩, fun sig h => ?_, hts _ h1⟩
  rw [h] at h6
  exact (Option.some.inj h6).symm
def CWN (own : String) (idx : Nat) (y : MethodName) (host : String) (cb : ByteArray) (mL : Nat) (ret : Option FieldType) (na : Nat) : Prop := Cond.methodLinkNest own idx y host ∈ NWs ∧ Cond.initialized y.cls ∈ wsL_law ∧ Cond.code y cb mL ret ∈ wsL_law ∧ y.cls ≠ "java/lang/invoke/MethodHandle" ∧ y.cls ≠ "java/lang/invoke/VarHandle" ∧ (parseMethodDescriptor y.desc).map (fun d => d.parameters.length) = some na
theorem cwn_of {R : Room} {s : State} {args : Array Value} {own : String} {idx : Nat} {y : MethodName} {host : String} {cb : ByteArray} {mL : Nat} {ret : Option FieldType} {na : Nat} {rm : Room} (hts : ∀ w ∈ wsL_law, w.before args s = true) (hN : NW s) (h : CWN own idx y host cb mL ret na) (hc : rm.cells = 0) (hs : rm.slots = 0) (hf : rm.frames + 1 ≤ R.frames) (hlo : 8 + (mL + 11) + rm.locals ≤ R.locals) : va_CN R s args own idx y host cb mL ret (Cond.code y cb mL ret :: wsL_law) rm 0 0 na := by
  obtain ⟨h1, h2, h3, h4, h5, h6⟩ := h
  refine ⟨⟨hc, hs, hf, hlo, pay_in hts (goodG h3), List.mem_cons_self⟩, hts _ h3, hts _ h2, ⟨h4, h5⟩, fun sig h => ?_, va_Nw.use rfl (hN _ h1)⟩
  rw [h] at h6
  exact (Option.some.inj h6).symm
theorem Pw_blind {X : Type} {Z : EC} {w : X → va_W} {x : X} {sz : Nat} {As : List Value} : FrameBlind (va_Pc As (Pw Z w x sz)) := fun a U g mk q => by
  obtain ⟨q0, q1, qP, qK, qD, qN⟩ := q
  exact ⟨q0, q1, qP, va_K.moved (u := U) (U := U.calling g mk a) (Vm.Alike.refl U.vm) qK, qD, NW.same (u := U) (U := U.calling g mk a) rfl qN⟩
theorem free_all {A0 : Nat → Prop} {ws : va_W} {H0 H : Heap} {locs : List Loc} (hD : va_D A0 ws) (hS : va_S A0 H0 H locs) (hA : ∀ q : Nat, H0.size ≤ q → A0 q) : ∀ q : Nat, va_A ws H.size q → A0 q := by
  intro q h
  rcases h with ⟨k, e, h⟩ | h
  · exact hD.2 k _ h
  · exact hA q (Nat.le_trans hS.1 h)
section JC
variable {l0 : Launch} {Z : EC} {X : Type} {w0 : X → va_W} {Γ : CTX X} {x : X} {cc : ByteArray} {own : String} {rm : Room} {n pc : Nat} {L : List (Option Value)} {st : List Value} {idx : Nat} {y : MethodName} {cb : ByteArray} {mL na : Nat} {rm2 : Room} {As : List Value}
theorem J_callVi (C : CJ l0 Z w0 Γ cc own rm n) {post : Int32 → X → Prop} {st0 : List Value} {b q0 ci N : Nat} {Cn : String} {T : u_T} {fs : List Value} (hM : MIi l0 Z w0 y cb mL rm2 (.ref b :: As) x post) (hcw : CWB own idx y cb mL (some .int) na) (hin : Cond.instanceMethod y ∈ wsL_law) (hse : Cond.selects Cn y y ∈ wsL_law) (he : (w0 x)[q0]? = some (b, .inr (ci, fs))) (hc : vwCl[ci]? = some (Cn, T, N)) (hst : st0 = As.reverse ++ .ref b :: st) (hna : As.length = na) (hsum : (st.map fun v => v.category).sum ≤ 8) (hrc : rm2.cells = 0) (hrs : rm2.slots = 0) (hrf : rm2.frames + 1 ≤ rm.frames) (hrl : 8 + (mL + 11) + rm2.locals ≤ rm.locals) (d : decode cc pc = .ok (.invokevirtual idx, 3)) (kk : ∀ (r : Int32) (x1 : X), post r x1 → J Γ x1 (pc + 3) L (.int r :: st)) : J Γ x pc L st0 := by
  obtain ⟨p, l, e, R, s, m, args, below, meth, c, Q, A, H0, nL, D, tys, w⟩ := Γ
  obtain ⟨hx, hb, hml, hn, hown, hts, hK, hA, hR, hl0, hD0, hty, hw, hNW⟩ := C
  subst hw
  subst hty
  subst hD0
  subst hR
  subst hl0
  subst hst
  intro H locs ls hP hD hS hL
  have hFc := free_all hD hS hA
  refine va_calli (va_runV (C := Cn) (As := As) (rest := st) ⟨hx, hb, hml.trans hn, hown, hts⟩ (hM H.size) ⟨cwb_of hts hcw hrc hrs hrf hrl, hts _ hin, hts _ hse⟩ ⟨Pw_blind, va_recv hK hP hc he, fun U hU hW => ⟨rfl, by rw [hU], by rw [hU]; exact hP, va_K.moved hW.alike hK, hD.weaken (fun _ _ _ _ => trivial), NW.warm hW hNW⟩⟩ rfl hna (hL.1.trans hn) rfl (lv_room hsum) d ⟨Nat.zero_le _, Nat.zero_le _⟩) hS (fun q _ h => hFc q h) hFc (fun r u t H1 locs1 ht hvm hw hB hz1 hk1 hS => ?_)
  obtain ⟨hP1, hK1, hD1⟩ := hB
  rw [ht] at hP1
  exact kk r u hw H1 locs1 ls hP1 (hD1.weaken (fun _ q _ h => hFc q.1 h)) hS hL
theorem J_callSi (C : CJ l0 Z w0 Γ cc own rm n) {post : Int32 → X → Prop} {st0 : List Value} (hM : MIi l0 Z w0 y cb mL rm2 As x post) (hcw : CWB own idx y cb mL (some .int) na) (hin : Cond.static y ∈ wsL_law) (hst : st0 = As.reverse ++ st) (hna : As.length = na) (hsum : (st.map fun v => v.category).sum ≤ 8) (hrc : rm2.cells = 0) (hrs : rm2.slots = 0) (hrf : rm2.frames + 1 ≤ rm.frames) (hrl : 8 + (mL + 11) + rm2.locals ≤ rm.locals) (d : decode cc pc = .ok (.invokestatic idx, 3)) (kk : ∀ (r : Int32) (x1 : X), post r x1 → J Γ x1 (pc + 3) L (.int r :: st)) : J Γ x pc L st0 := by
  obtain ⟨p, l, e, R, s, m, args, below, meth, c, Q, A, H0, nL, D, tys, w⟩ := Γ
  obtain ⟨hx, hb, hml, hn, hown, hts, hK, hA, hR, hl0, hD0, hty, hw, hNW⟩ := C
  subst hw
  subst hty
  subst hD0
  subst hR
  subst hl0
  subst hst
  intro H locs ls hP hD hS hL
  have hFc := free_all hD hS hA
  refine va_calli (va_runS (As := As) (rest := st) ⟨hx, hb, hml.trans hn, hown, hts⟩ (hM H.size) ⟨cwb_of hts hcw hrc hrs hrf hrl, hts _ hin⟩ ⟨Pw_blind, fun U hU hW => ⟨rfl, by rw [hU], by rw [hU]; exact hP, va_K.moved hW.alike hK, hD.weaken (fun _ _ _ _ => trivial), NW.warm hW hNW⟩⟩ rfl hna (hL.1.trans hn) rfl (lv_room hsum) d ⟨Nat.zero_le _, Nat.zero_le _⟩) hS (fun q _ h => hFc q h) hFc (fun r u t H1 locs1 ht hvm hw hB hz1 hk1 hS => ?_)
  obtain ⟨hP1, hK1, hD1⟩ := hB
  rw [ht] at hP1
  exact kk r u hw H1 locs1 ls hP1 (hD1.weaken (fun _ q _ h => hFc q.1 h)) hS hL
theorem J_callNi (C : CJ l0 Z w0 Γ cc own rm n) {post : Int32 → X → Prop} {st0 : List Value} {host : String} (hM : MIi l0 Z w0 y cb mL rm2 As x post) (hcw : CWN own idx y host cb mL (some .int) na) (hin : Cond.static y ∈ wsL_law) (hst : st0 = As.reverse ++ st) (hna : As.length = na) (hsum : (st.map fun v => v.category).sum ≤ 8) (hrc : rm2.cells = 0) (hrs : rm2.slots = 0) (hrf : rm2.frames + 1 ≤ rm.frames) (hrl : 8 + (mL + 11) + rm2.locals ≤ rm.locals) (d : decode cc pc = .ok (.invokestatic idx, 3)) (kk : ∀ (r : Int32) (x1 : X), post r x1 → J Γ x1 (pc + 3) L (.int r :: st)) : J Γ x pc L st0 := by
  obtain ⟨p, l, e, R, s, m, args, below, meth, c, Q, A, H0, nL, D, tys, w⟩ := Γ
  obtain ⟨hx, hb, hml, hn, hown, hts, hK, hA, hR, hl0, hD0, hty, hw, hNW⟩ := C
  subst hw
  subst hty
  subst hD0
  subst hR
  subst hl0
  subst hst
  intro H locs ls hP hD hS hL
  have hFc := free_all hD hS hA
  refine va_calli (va_runSN (As := As) (rest := st) ⟨hx, hb, hml.trans hn, hown, hts⟩ (hM H.size) ⟨cwn_of hts hNW hcw hrc hrs hrf hrl, hts _ hin, trivial⟩ ⟨Pw_blind, fun U hU hW => ⟨rfl, by rw [hU], by rw [hU]; exact hP, va_K.moved hW.alike hK, hD.weaken (fun _ _ _ _ => trivial), NW.warm hW hNW⟩⟩ rfl hna (hL.1.trans hn) rfl (lv_room hsum) d ⟨Nat.zero_le _, Nat.zero_le _⟩) hS (fun q _ h => hFc q h) hFc (fun r u t H1 locs1 ht hvm hw hB hz1 hk1 hS => ?_)
  obtain ⟨hP1, hK1, hD1⟩ := hB
  rw [ht] at hP1
  exact kk r u hw H1 locs1 ls hP1 (hD1.weaken (fun _ q _ h => hFc q.1 h)) hS hL
theorem J_callVz (C : CJ l0 Z w0 Γ cc own rm n) {post : Bool → X → Prop} {st0 : List Value} {b q0 ci N : Nat} {Cn : String} {T : u_T} {fs : List Value} (hM : MIz l0 Z w0 y cb mL rm2 (.ref b :: As) x post) (hcw : CWB own idx y cb mL (some .boolean) na) (hin : Cond.instanceMethod y ∈ wsL_law) (hse : Cond.selects Cn y y ∈ wsL_law) (he : (w0 x)[q0]? = some (b, .inr (ci, fs))) (hc : vwCl[ci]? = some (Cn, T, N)) (hst : st0 = As.reverse ++ .ref b :: st) (hna : As.length = na) (hsum : (st.map fun v => v.category).sum ≤ 8) (hrc : rm2.cells = 0) (hrs : rm2.slots = 0) (hrf : rm2.frames + 1 ≤ rm.frames) (hrl : 8 + (mL + 11) + rm2.locals ≤ rm.locals) (d : decode cc pc = .ok (.invokevirtual idx, 3)) (kk : ∀ (b : Bool) (x1 : X), post b x1 → J Γ x1 (pc + 3) L (.int (b2i b) :: st)) : J Γ x pc L st0 := by
  obtain ⟨p, l, e, R, s, m, args, below, meth, c, Q, A, H0, nL, D, tys, w⟩ := Γ
  obtain ⟨hx, hb, hml, hn, hown, hts, hK, hA, hR, hl0, hD0, hty, hw, hNW⟩ := C
  subst hw
  subst hty
  subst hD0
  subst hR
  subst hl0
  subst hst
  intro H locs ls hP hD hS hL
  have hFc := free_all hD hS hA
  refine va_calli (va_runV (C := Cn) (As := As) (rest := st) ⟨hx, hb, hml.trans hn, hown, hts⟩ (hM H.size) ⟨cwb_of hts hcw hrc hrs hrf hrl, hts _ hin, hts _ hse⟩ ⟨Pw_blind, va_recv hK hP hc he, fun U hU hW => ⟨rfl, by rw [hU], by rw [hU]; exact hP, va_K.moved hW.alike hK, hD.weaken (fun _ _ _ _ => trivial), NW.warm hW hNW⟩⟩ rfl hna (hL.1.trans hn) rfl (lv_room hsum) d ⟨Nat.zero_le _, Nat.zero_le _⟩) hS (fun q _ h => hFc q h) hFc (fun r u t H1 locs1 ht hvm hw hB hz1 hk1 hS => ?_)
  obtain ⟨bb, rfl, hw⟩ := hw
  obtain ⟨hP1, hK1, hD1⟩ := hB
  rw [ht] at hP1
  exact kk bb u hw H1 locs1 ls hP1 (hD1.weaken (fun _ q _ h => hFc q.1 h)) hS hL
theorem J_callSz (C : CJ l0 Z w0 Γ cc own rm n) {post : Bool → X → Prop} {st0 : List Value} (hM : MIz l0 Z w0 y cb mL rm2 As x post) (hcw : CWB own idx y cb mL (some .boolean) na) (hin : Cond.static y ∈ wsL_law) (hst : st0 = As.reverse ++ st) (hna : As.length = na) (hsum : (st.map fun v => v.category).sum ≤ 8) (hrc : rm2.cells = 0) (hrs : rm2.slots = 0) (hrf : rm2.frames + 1 ≤ rm.frames) (hrl : 8 + (mL + 11) + rm2.locals ≤ rm.locals) (d : decode cc pc = .ok (.invokestatic idx, 3)) (kk : ∀ (b : Bool) (x1 : X), post b x1 → J Γ x1 (pc + 3) L (.int (b2i b) :: st)) : J Γ x pc L st0 := by
  obtain ⟨p, l, e, R, s, m, args, below, meth, c, Q, A, H0, nL, D, tys, w⟩ := Γ
  obtain ⟨hx, hb, hml, hn, hown, hts, hK, hA, hR, hl0, hD0, hty, hw, hNW⟩ := C
  subst hw
  subst hty
  subst hD0
  subst hR
  subst hl0
  subst hst
  intro H locs ls hP hD hS hL
  have hFc := free_all hD hS hA
  refine va_calli (va_runS (As := As) (rest := st) ⟨hx, hb, hml.trans hn, hown, hts⟩ (hM H.size) ⟨cwb_of hts hcw hrc hrs hrf hrl, hts _ hin⟩ ⟨Pw_blind, fun U hU hW => ⟨rfl, by rw [hU], by rw [hU]; exact hP, va_K.moved hW.alike hK, hD.weaken (fun _ _ _ _ => trivial), NW.warm hW hNW⟩⟩ rfl hna (hL.1.trans hn) rfl (lv_room hsum) d ⟨Nat.zero_le _, Nat.zero_le _⟩) hS (fun q _ h => hFc q h) hFc (fun r u t H1 locs1 ht hvm hw hB hz1 hk1 hS => ?_)
  obtain ⟨bb, rfl, hw⟩ := hw
  obtain ⟨hP1, hK1, hD1⟩ := hB
  rw [ht] at hP1
  exact kk bb u hw H1 locs1 ls hP1 (hD1.weaken (fun _ q _ h => hFc q.1 h)) hS hL
theorem J_callNz (C : CJ l0 Z w0 Γ cc own rm n) {post : Bool → X → Prop} {st0 : List Value} {host : String} (hM : MIz l0 Z w0 y cb mL rm2 As x post) (hcw : CWN own idx y host cb mL (some .boolean) na) (hin : Cond.static y ∈ wsL_law) (hst : st0 = As.reverse ++ st) (hna : As.length = na) (hsum : (st.map fun v => v.category).sum ≤ 8) (hrc : rm2.cells = 0) (hrs : rm2.slots = 0) (hrf : rm2.frames + 1 ≤ rm.frames) (hrl : 8 + (mL + 11) + rm2.locals ≤ rm.locals) (d : decode cc pc = .ok (.invokestatic idx, 3)) (kk : ∀ (b : Bool) (x1 : X), post b x1 → J Γ x1 (pc + 3) L (.int (b2i b) :: st)) : J Γ x pc L st0 := by
  obtain ⟨p, l, e, R, s, m, args, below, meth, c, Q, A, H0, nL, D, tys, w⟩ := Γ
  obtain ⟨hx, hb, hml, hn, hown, hts, hK, hA, hR, hl0, hD0, hty, hw, hNW⟩ := C
  subst hw
  subst hty
  subst hD0
  subst hR
  subst hl0
  subst hst
  intro H locs ls hP hD hS hL
  have hFc := free_all hD hS hA
  refine va_calli (va_runSN (As := As) (rest := st) ⟨hx, hb, hml.trans hn, hown, hts⟩ (hM H.size) ⟨cwn_of hts hNW hcw hrc hrs hrf hrl, hts _ hin, trivial⟩ ⟨Pw_blind, fun U hU hW => ⟨rfl, by rw [hU], by rw [hU]; exact hP, va_K.moved hW.alike hK, hD.weaken (fun _ _ _ _ => trivial), NW.warm hW hNW⟩⟩ rfl hna (hL.1.trans hn) rfl (lv_room hsum) d ⟨Nat.zero_le _, Nat.zero_le _⟩) hS (fun q _ h => hFc q h) hFc (fun r u t H1 locs1 ht hvm hw hB hz1 hk1 hS => ?_)
  obtain ⟨bb, rfl, hw⟩ := hw
  obtain ⟨hP1, hK1, hD1⟩ := hB
  rw [ht] at hP1
  exact kk bb u hw H1 locs1 ls hP1 (hD1.weaken (fun _ q _ h => hFc q.1 h)) hS hL
theorem J_callVl (C : CJ l0 Z w0 Γ cc own rm n) {post : Int64 → X → Prop} {st0 : List Value} {b q0 ci N : Nat} {Cn : String} {T : u_T} {fs : List Value} (hM : MIl l0 Z w0 y cb mL rm2 (.ref b :: As) x post) (hcw : CWB own idx y cb mL (some .long) na) (hin : Cond.instanceMethod y ∈ wsL_law) (hse : Cond.selects Cn y y ∈ wsL_law) (he : (w0 x)[q0]? = some (b, .inr (ci, fs))) (hc : vwCl[ci]? = some (Cn, T, N)) (hst : st0 = As.reverse ++ .ref b :: st) (hna : As.length = na) (hsum : (st.map fun v => v.category).sum ≤ 8) (hrc : rm2.cells = 0) (hrs : rm2.slots = 0) (hrf : rm2.frames + 1 ≤ rm.frames) (hrl : 8 + (mL + 11) + rm2.locals ≤ rm.locals) (d : decode cc pc = .ok (.invokevirtual idx, 3)) (kk : ∀ (r : Int64) (x1 : X), post r x1 → J Γ x1 (pc + 3) L (.long r :: st)) : J Γ x pc L st0 := by
  obtain ⟨p, l, e, R, s, m, args, below, meth, c, Q, A, H0, nL, D, tys, w⟩ := Γ
  obtain ⟨hx, hb, hml, hn, hown, hts, hK, hA, hR, hl0, hD0, hty, hw, hNW⟩ := C
  subst hw
  subst hty
  subst hD0
  subst hR
  subst hl0
  subst hst
  intro H locs ls hP hD hS hL
  have hFc := free_all hD hS hA
  refine va_calll (va_runV (C := Cn) (As := As) (rest := st) ⟨hx, hb, hml.trans hn, hown, hts⟩ (hM H.size) ⟨cwb_of hts hcw hrc hrs hrf hrl, hts _ hin, hts _ hse⟩ ⟨Pw_blind, va_recv hK hP hc he, fun U hU hW => ⟨rfl, by rw [hU], by rw [hU]; exact hP, va_K.moved hW.alike hK, hD.weaken (fun _ _ _ _ => trivial), NW.warm hW hNW⟩⟩ rfl hna (hL.1.trans hn) rfl (lv_room hsum) d ⟨Nat.zero_le _, Nat.zero_le _⟩) hS (fun q _ h => hFc q h) hFc (fun r u t H1 locs1 ht hvm hw hB hz1 hk1 hS => ?_)
  obtain ⟨hP1, hK1, hD1⟩ := hB
  rw [ht] at hP1
  exact kk r u hw H1 locs1 ls hP1 (hD1.weaken (fun _ q _ h => hFc q.1 h)) hS hL
theorem J_callSl (C : CJ l0 Z w0 Γ cc own rm n) {post : Int64 → X → Prop} {st0 : List Value} (hM : MIl l0 Z w0 y cb mL rm2 As x post) (hcw : CWB own idx y cb mL (some .long) na) (hin : Cond.static y ∈ wsL_law) (hst : st0 = As.reverse ++ st) (hna : As.length = na) (hsum : (st.map fun v => v.category).sum ≤ 8) (hrc : rm2.cells = 0) (hrs : rm2.slots = 0) (hrf : rm2.frames + 1 ≤ rm.frames) (hrl : 8 + (mL + 11) + rm2.locals ≤ rm.locals) (d : decode cc pc = .ok (.invokestatic idx, 3)) (kk : ∀ (r : Int64) (x1 : X), post r x1 → J Γ x1 (pc + 3) L (.long r :: st)) : J Γ x pc L st0 := by
  obtain ⟨p, l, e, R, s, m, args, below, meth, c, Q, A, H0, nL, D, tys, w⟩ := Γ
  obtain ⟨hx, hb, hml, hn, hown, hts, hK, hA, hR, hl0, hD0, hty, hw, hNW⟩ := C
  subst hw
  subst hty
  subst hD0
  subst hR
  subst hl0
  subst hst
  intro H locs ls hP hD hS hL
  have hFc := free_all hD hS hA
  refine va_calll (va_runS (As := As) (rest := st) ⟨hx, hb, hml.trans hn, hown, hts⟩ (hM H.size) ⟨cwb_of hts hcw hrc hrs hrf hrl, hts _ hin⟩ ⟨Pw_blind, fun U hU hW => ⟨rfl, by rw [hU], by rw [hU]; exact hP, va_K.moved hW.alike hK, hD.weaken (fun _ _ _ _ => trivial), NW.warm hW hNW⟩⟩ rfl hna (hL.1.trans hn) rfl (lv_room hsum) d ⟨Nat.zero_le _, Nat.zero_le _⟩) hS (fun q _ h => hFc q h) hFc (fun r u t H1 locs1 ht hvm hw hB hz1 hk1 hS => ?_)
  obtain ⟨hP1, hK1, hD1⟩ := hB
  rw [ht] at hP1
  exact kk r u hw H1 locs1 ls hP1 (hD1.weaken (fun _ q _ h => hFc q.1 h)) hS hL
theorem J_callNl (C : CJ l0 Z w0 Γ cc own rm n) {post : Int64 → X → Prop} {st0 : List Value} {host : String} (hM : MIl l0 Z w0 y cb mL rm2 As x post) (hcw : CWN own idx y host cb mL (some .long) na) (hin : Cond.static y ∈ wsL_law) (hst : st0 = As.reverse ++ st) (hna : As.length = na) (hsum : (st.map fun v => v.category).sum ≤ 8) (hrc : rm2.cells = 0) (hrs : rm2.slots = 0) (hrf : rm2.frames + 1 ≤ rm.frames) (hrl : 8 + (mL + 11) + rm2.locals ≤ rm.locals) (d : decode cc pc = .ok (.invokestatic idx, 3)) (kk : ∀ (r : Int64) (x1 : X), post r x1 → J Γ x1 (pc + 3) L (.long r :: st)) : J Γ x pc L st0 := by
  obtain ⟨p, l, e, R, s, m, args, below, meth, c, Q, A, H0, nL, D, tys, w⟩ := Γ
  obtain ⟨hx, hb, hml, hn, hown, hts, hK, hA, hR, hl0, hD0, hty, hw, hNW⟩ := C
  subst hw
  subst hty
  subst hD0
  subst hR
  subst hl0
  subst hst
  intro H locs ls hP hD hS hL
  have hFc := free_all hD hS hA
  refine va_calll (va_runSN (As := As) (rest := st) ⟨hx, hb, hml.trans hn, hown, hts⟩ (hM H.size) ⟨cwn_of hts hNW hcw hrc hrs hrf hrl, hts _ hin, trivial⟩ ⟨Pw_blind, fun U hU hW => ⟨rfl, by rw [hU], by rw [hU]; exact hP, va_K.moved hW.alike hK, hD.weaken (fun _ _ _ _ => trivial), NW.warm hW hNW⟩⟩ rfl hna (hL.1.trans hn) rfl (lv_room hsum) d ⟨Nat.zero_le _, Nat.zero_le _⟩) hS (fun q _ h => hFc q h) hFc (fun r u t H1 locs1 ht hvm hw hB hz1 hk1 hS => ?_)
  obtain ⟨hP1, hK1, hD1⟩ := hB
  rw [ht] at hP1
  exact kk r u hw H1 locs1 ls hP1 (hD1.weaken (fun _ q _ h => hFc q.1 h)) hS hL
theorem J_callVv (C : CJ l0 Z w0 Γ cc own rm n) {post : X → Prop} {st0 : List Value} {b q0 ci N : Nat} {Cn : String} {T : u_T} {fs : List Value} (hM : MIv l0 Z w0 y cb mL rm2 (.ref b :: As) x post) (hcw : CWB own idx y cb mL (none) na) (hin : Cond.instanceMethod y ∈ wsL_law) (hse : Cond.selects Cn y y ∈ wsL_law) (he : (w0 x)[q0]? = some (b, .inr (ci, fs))) (hc : vwCl[ci]? = some (Cn, T, N)) (hst : st0 = As.reverse ++ .ref b :: st) (hna : As.length = na) (hsum : (st.map fun v => v.category).sum ≤ 8) (hrc : rm2.cells = 0) (hrs : rm2.slots = 0) (hrf : rm2.frames + 1 ≤ rm.frames) (hrl : 8 + (mL + 11) + rm2.locals ≤ rm.locals) (d : decode cc pc = .ok (.invokevirtual idx, 3)) (kk : ∀ (x1 : X), post x1 → J Γ x1 (pc + 3) L st) : J Γ x pc L st0 := by
  obtain ⟨p, l, e, R, s, m, args, below, meth, c, Q, A, H0, nL, D, tys, w⟩ := Γ
  obtain ⟨hx, hb, hml, hn, hown, hts, hK, hA, hR, hl0, hD0, hty, hw, hNW⟩ := C
  subst hw
  subst hty
  subst hD0
  subst hR
  subst hl0
  subst hst
  intro H locs ls hP hD hS hL
  have hFc := free_all hD hS hA
  refine va_callv (va_runV (C := Cn) (As := As) (rest := st) ⟨hx, hb, hml.trans hn, hown, hts⟩ (hM H.size) ⟨cwb_of hts hcw hrc hrs hrf hrl, hts _ hin, hts _ hse⟩ ⟨Pw_blind, va_recv hK hP hc he, fun U hU hW => ⟨rfl, by rw [hU], by rw [hU]; exact hP, va_K.moved hW.alike hK, hD.weaken (fun _ _ _ _ => trivial), NW.warm hW hNW⟩⟩ rfl hna (hL.1.trans hn) rfl (lv_room hsum) d ⟨Nat.zero_le _, Nat.zero_le _⟩) hS (fun q _ h => hFc q h) hFc (fun u t H1 locs1 ht hvm hw hB hz1 hk1 hS => ?_)
  obtain ⟨hP1, hK1, hD1⟩ := hB
  rw [ht] at hP1
  exact kk u hw H1 locs1 ls hP1 (hD1.weaken (fun _ q _ h => hFc q.1 h)) hS hL
theorem J_callSv (C : CJ l0 Z w0 Γ cc own rm n) {post : X → Prop} {st0 : List Value} (hM : MIv l0 Z w0 y cb mL rm2 As x post) (hcw : CWB own idx y cb mL (none) na) (hin : Cond.static y ∈ wsL_law) (hst : st0 = As.reverse ++ st) (hna : As.length = na) (hsum : (st.map fun v => v.category).sum ≤ 8) (hrc : rm2.cells = 0) (hrs : rm2.slots = 0) (hrf : rm2.frames + 1 ≤ rm.frames) (hrl : 8 + (mL + 11) + rm2.locals ≤ rm.locals) (d : decode cc pc = .ok (.invokestatic idx, 3)) (kk : ∀ (x1 : X), post x1 → J Γ x1 (pc + 3) L st) : J Γ x pc L st0 := by
  obtain ⟨p, l, e, R, s, m, args, below, meth, c, Q, A, H0, nL, D, tys, w⟩ := Γ
  obtain ⟨hx, hb, hml, hn, hown, hts, hK, hA, hR, hl0, hD0, hty, hw, hNW⟩ := C
  subst hw
  subst hty
  subst hD0
  subst hR
  subst hl0
  subst hst
  intro H locs ls hP hD hS hL
  have hFc := free_all hD hS hA
  refine va_callv (va_runS (As := As) (rest := st) ⟨hx, hb, hml.trans hn, hown, hts⟩ (hM H.size) ⟨cwb_of hts hcw hrc hrs hrf hrl, hts _ hin⟩ ⟨Pw_blind, fun U hU hW => ⟨rfl, by rw [hU], by rw [hU]; exact hP, va_K.moved hW.alike hK, hD.weaken (fun _ _ _ _ => trivial), NW.warm hW hNW⟩⟩ rfl hna (hL.1.trans hn) rfl (lv_room hsum) d ⟨Nat.zero_le _, Nat.zero_le _⟩) hS (fun q _ h => hFc q h) hFc (fun u t H1 locs1 ht hvm hw hB hz1 hk1 hS => ?_)
  obtain ⟨hP1, hK1, hD1⟩ := hB
  rw [ht] at hP1
  exact kk u hw H1 locs1 ls hP1 (hD1.weaken (fun _ q _ h => hFc q.1 h)) hS hL
theorem J_callNv (C : CJ l0 Z w0 Γ cc own rm n) {post : X → Prop} {st0 : List Value} {host : String} (hM : MIv l0 Z w0 y cb mL rm2 As x post) (hcw : CWN own idx y host cb mL (none) na) (hin : Cond.static y ∈ wsL_law) (hst : st0 = As.reverse ++ st) (hna : As.length = na) (hsum : (st.map fun v => v.category).sum ≤ 8) (hrc : rm2.cells = 0) (hrs : rm2.slots = 0) (hrf : rm2.frames + 1 ≤ rm.frames) (hrl : 8 + (mL + 11) + rm2.locals ≤ rm.locals) (d : decode cc pc = .ok (.invokestatic idx, 3)) (kk : ∀ (x1 : X), post x1 → J Γ x1 (pc + 3) L st) : J Γ x pc L st0 := by
  obtain ⟨p, l, e, R, s, m, args, below, meth, c, Q, A, H0, nL, D, tys, w⟩ := Γ
  obtain ⟨hx, hb, hml, hn, hown, hts, hK, hA, hR, hl0, hD0, hty, hw, hNW⟩ := C
  subst hw
  subst hty
  subst hD0
  subst hR
  subst hl0
  subst hst
  intro H locs ls hP hD hS hL
  have hFc := free_all hD hS hA
  refine va_callv (va_runSN (As := As) (rest := st) ⟨hx, hb, hml.trans hn, hown, hts⟩ (hM H.size) ⟨cwn_of hts hNW hcw hrc hrs hrf hrl, hts _ hin, trivial⟩ ⟨Pw_blind, fun U hU hW => ⟨rfl, by rw [hU], by rw [hU]; exact hP, va_K.moved hW.alike hK, hD.weaken (fun _ _ _ _ => trivial), NW.warm hW hNW⟩⟩ rfl hna (hL.1.trans hn) rfl (lv_room hsum) d ⟨Nat.zero_le _, Nat.zero_le _⟩) hS (fun q _ h => hFc q h) hFc (fun u t H1 locs1 ht hvm hw hB hz1 hk1 hS => ?_)
  obtain ⟨hP1, hK1, hD1⟩ := hB
  rw [ht] at hP1
  exact kk u hw H1 locs1 ls hP1 (hD1.weaken (fun _ q _ h => hFc q.1 h)) hS hL
end JC
def lv0 : List Value → List (Option Value)
  | [] => []
  | v :: vs => if v.category = 2 then some v :: none :: lv0 vs else some v :: lv0 vs
theorem lv0_at : ∀ (vs : List Value) (j i : Nat) (v : Value), (lv0 vs)[i]? = some (some v) → (j + i, v) ∈ lv_args j vs
  | [], j, i, v, h => by simp [lv0] at h
  | u :: vs, j, i, v, h => by
    unfold lv0 at h
    unfold lv_args
    by_cases hc : u.category = 2
    · rw [if_pos hc] at h ⊢
      match i, h with
      | 0, h => simp at h; subst h; exact List.mem_cons_self
      | 1, h => simp at h
      | i + 2, h =>
        simp only [List.getElem?_cons_succ] at h
        have := lv0_at vs (j + 2) i v h
        rw [show j + (i + 2) = j + 2 + i by omega]
        exact List.mem_cons_of_mem _ this
    · rw [if_neg hc] at h ⊢
      match i, h with
      | 0, h => simp at h; subst h; exact List.mem_cons_self
      | i + 1, h =>
        simp only [List.getElem?_cons_succ] at h
        have := lv0_at vs (j + 1) i v h
        rw [show j + (i + 1) = j + 1 + i by omega]
        exact List.mem_cons_of_mem _ this
theorem LV_entry {As : List Value} {n : Nat} {L0 : List (Option Value)} (h : (lg_sl As).length ≤ n) (hs : lsub L0 (lv0 As)) : LV ((lg_sl As ++ List.replicate (n - (lg_sl As).length) Slot.unset).toArray) n L0 := by
  obtain ⟨h1, h2, h3⟩ := lv_entry As h
  refine ⟨h1, h2, fun i v hi => ?_⟩
  have := lv0_at As 0 i v (lsub_at _ _ hs i v hi)
  rw [Nat.zero_add] at this
  exact h3 (i, v) this
theorem MIi_of {X : Type} {l : Launch} {Z : EC} {w : X → va_W} {y : MethodName} {cb : ByteArray} {mL : Nat} {rm : Room} {As : List Value} {x : X} {post : Int32 → X → Prop} {own : String} {L0 : List (Option Value)} (hy : plainName y.cls = true) (hown0 : y.cls = own) (hlen : (lg_sl As).length ≤ mL) (hL0 : lsub L0 (lv0 As)) (body : ∀ Γ : CTX X, CJ l Z w Γ cb own rm mL → (∀ {pc : Nat} {L : List (Option Value)} {r : Int32} {x1 : X}, decode cb pc = .ok (.ireturn, 1) → post r x1 → J Γ x1 pc L [.int r]) → J Γ x 0 L0 []) : MIi l Z w y cb mL rm As x post := by
  intro sz
  refine Met.ofW (cc := cb) (maxL := mL) (ret := some .int) hy rfl ?_
  intro p e s m args below meth c s₁ B hml hv
  obtain ⟨rfl, hsz, hP, hK, hD0, hNW⟩ := hv
  have hx := B.exec
  have hb := B.bytes
  have hr := B.returns
  have hts := atoms_spec (ws := Cond.code y cb mL (some .int) :: wsL_law) B.pre
  have hown : s.vm.findClass own = some m.cls := by rw [← hown0]; exact findClass_of_methodNamed B.named
  have hlocks := B.notSynchronized
  subst hsz
  have hD := hD0.self (sz := s.heap.size)
  generalize hAe : va_A (w x) s.heap.size = A at hD ⊢
  have hA : ∀ q : Nat, s.heap.size ≤ q → A q := fun q h => by rw [← hAe]; exact Or.inr h
  have hl := LV_entry hlen hL0
  rw [lg_entry_eq]
  refine body (p, l, e, rm, s, m, As.toArray, below, meth, c, _, A, s.heap, mL, Z.1, tyZ Z, w) ⟨hx, hb, hml, rfl, hown, fun u hu => hts u (List.mem_cons_of_mem _ hu), hK, hA, rfl, rfl, rfl, rfl, rfl, hNW⟩ ?_ s.heap [] _ hP hD va_S.rf hl
  intro pc L r x1 hd hp H locs ls hP hD hS hL
  rw [← hAe] at hD hS ⊢
  exact W.iret hx hb hr (fun t ht hW => ⟨⟨r, x1, rfl, hp, by rw [ht]; exact hP, va_K.moved hW.alike hK, hD⟩, hS.F ht⟩) hS.2.2 hd
theorem MIz_of {X : Type} {l : Launch} {Z : EC} {w : X → va_W} {y : MethodName} {cb : ByteArray} {mL : Nat} {rm : Room} {As : List Value} {x : X} {post : Bool → X → Prop} {own : String} {L0 : List (Option Value)} (hy : plainName y.cls = true) (hown0 : y.cls = own) (hlen : (lg_sl As).length ≤ mL) (hL0 : lsub L0 (lv0 As)) (body : ∀ Γ : CTX X, CJ l Z w Γ cb own rm mL → (∀ {pc : Nat} {L : List (Option Value)} {b : Bool} {x1 : X}, decode cb pc = .ok (.ireturn, 1) → post b x1 → J Γ x1 pc L [.int (b2i b)]) → J Γ x 0 L0 []) : MIz l Z w y cb mL rm As x post := by
  intro sz
  refine Met.ofW (cc := cb) (maxL := mL) (ret := some .boolean) hy rfl ?_
  intro p e s m args below meth c s₁ B hml hv
  obtain ⟨rfl, hsz, hP, hK, hD0, hNW⟩ := hv
  have hx := B.exec
  have hb := B.bytes
  have hr := B.returns
  have hts := atoms_spec (ws := Cond.code y cb mL (some .boolean) :: wsL_law) B.pre
  have hown : s.vm.findClass own = some m.cls := by rw [← hown0]; exact findClass_of_methodNamed B.named
  have hlocks := B.notSynchronized
  subst hsz
  have hD := hD0.self (sz := s.heap.size)
  generalize hAe : va_A (w x) s.heap.size = A at hD ⊢
  have hA : ∀ q : Nat, s.heap.size ≤ q → A q := fun q h => by rw [← hAe]; exact Or.inr h
  have hl := LV_entry hlen hL0
  rw [lg_entry_eq]
  refine body (p, l, e, rm, s, m, As.toArray, below, meth, c, _, A, s.heap, mL, Z.1, tyZ Z, w) ⟨hx, hb, hml, rfl, hown, fun u hu => hts u (List.mem_cons_of_mem _ hu), hK, hA, rfl, rfl, rfl, rfl, rfl, hNW⟩ ?_ s.heap [] _ hP hD va_S.rf hl
  intro pc L b x1 hd hp H locs ls hP hD hS hL
  rw [← hAe] at hD hS ⊢
  exact W.zret hx hb hr (b2i_nar b) (fun t ht hW => ⟨⟨b2i b, x1, rfl, ⟨b, rfl, hp⟩, by rw [ht]; exact hP, va_K.moved hW.alike hK, hD⟩, hS.F ht⟩) hS.2.2 hd
theorem MIl_of {X : Type} {l : Launch} {Z : EC} {w : X → va_W} {y : MethodName} {cb : ByteArray} {mL : Nat} {rm : Room} {As : List Value} {x : X} {post : Int64 → X → Prop} {own : String} {L0 : List (Option Value)} (hy : plainName y.cls = true) (hown0 : y.cls = own) (hlen : (lg_sl As).length ≤ mL) (hL0 : lsub L0 (lv0 As)) (body : ∀ Γ : CTX X, CJ l Z w Γ cb own rm mL → (∀ {pc : Nat} {L : List (Option Value)} {r : Int64} {x1 : X}, decode cb pc = .ok (.lreturn, 1) → post r x1 → J Γ x1 pc L [.long r]) → J Γ x 0 L0 []) : MIl l Z w y cb mL rm As x post := by
  intro sz
  refine Met.ofW (cc := cb) (maxL := mL) (ret := some .long) hy rfl ?_
  intro p e s m args below meth c s₁ B hml hv
  obtain ⟨rfl, hsz, hP, hK, hD0, hNW⟩ := hv
  have hx := B.exec
  have hb := B.bytes
  have hr := B.returns
  have hts := atoms_spec (ws := Cond.code y cb mL (some .long) :: wsL_law) B.pre
  have hown : s.vm.findClass own = some m.cls := by rw [← hown0]; exact findClass_of_methodNamed B.named
  have hlocks := B.notSynchronized
  subst hsz
  have hD := hD0.self (sz := s.heap.size)
  generalize hAe : va_A (w x) s.heap.size = A at hD ⊢
  have hA : ∀ q : Nat, s.heap.size ≤ q → A q := fun q h => by rw [← hAe]; exact Or.inr h
  have hl := LV_entry hlen hL0
  rw [lg_entry_eq]
  refine body (p, l, e, rm, s, m, As.toArray, below, meth, c, _, A, s.heap, mL, Z.1, tyZ Z, w) ⟨hx, hb, hml, rfl, hown, fun u hu => hts u (List.mem_cons_of_mem _ hu), hK, hA, rfl, rfl, rfl, rfl, rfl, hNW⟩ ?_ s.heap [] _ hP hD va_S.rf hl
  intro pc L r x1 hd hp H locs ls hP hD hS hL
  rw [← hAe] at hD hS ⊢
  exact W.lret hx hb hr (fun t ht hW => ⟨⟨r, x1, rfl, hp, by rw [ht]; exact hP, va_K.moved hW.alike hK, hD⟩, hS.F ht⟩) hS.2.2 hd
theorem MIv_of {X : Type} {l : Launch} {Z : EC} {w : X → va_W} {y : MethodName} {cb : ByteArray} {mL : Nat} {rm : Room} {As : List Value} {x : X} {post : X → Prop} {own : String} {L0 : List (Option Value)} (hy : plainName y.cls = true) (hown0 : y.cls = own) (hlen : (lg_sl As).length ≤ mL) (hL0 : lsub L0 (lv0 As)) (body : ∀ Γ : CTX X, CJ l Z w Γ cb own rm mL → (∀ {pc : Nat} {L : List (Option Value)} {x1 : X}, decode cb pc = .ok (.return_, 1) → post x1 → J Γ x1 pc L []) → J Γ x 0 L0 []) : MIv l Z w y cb mL rm As x post := by
  intro sz
  refine Met.ofW (cc := cb) (maxL := mL) (ret := none) hy rfl ?_
  intro p e s m args below meth c s₁ B hml hv
  obtain ⟨rfl, hsz, hP, hK, hD0, hNW⟩ := hv
  have hx := B.exec
  have hb := B.bytes
  have hr := B.returns
  have hts := atoms_spec (ws := Cond.code y cb mL (none) :: wsL_law) B.pre
  have hown : s.vm.findClass own = some m.cls := by rw [← hown0]; exact findClass_of_methodNamed B.named
  have hlocks := B.notSynchronized
  subst hsz
  have hD := hD0.self (sz := s.heap.size)
  generalize hAe : va_A (w x) s.heap.size = A at hD ⊢
  have hA : ∀ q : Nat, s.heap.size ≤ q → A q := fun q h => by rw [← hAe]; exact Or.inr h
  have hl := LV_entry hlen hL0
  rw [lg_entry_eq]
  refine body (p, l, e, rm, s, m, As.toArray, below, meth, c, _, A, s.heap, mL, Z.1, tyZ Z, w) ⟨hx, hb, hml, rfl, hown, fun u hu => hts u (List.mem_cons_of_mem _ hu), hK, hA, rfl, rfl, rfl, rfl, rfl, hNW⟩ ?_ s.heap [] _ hP hD va_S.rf hl
  intro pc L x1 hd hp H locs ls hP hD hS hL
  rw [← hAe] at hD hS ⊢
  exact W.vret hx hb hr (fun t ht hW => ⟨⟨x1, rfl, hp, by rw [ht]; exact hP, va_K.moved hW.alike hK, hD⟩, hS.F ht⟩) hS.2.2 hd
