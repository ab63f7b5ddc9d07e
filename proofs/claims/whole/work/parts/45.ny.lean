/-! the judgement over worlds that grow: at a world ws, k cells and n slots made, at pc, with locals L and stack st, the machine comes to Q -/
abbrev CTY : Type := Program × Launch × Jvm.Env × Room × State × MethodId × Array Value × List Frame × Method × Code × (State → Prop) × (Nat → Prop) × Heap × Nat × va_G
def YJ (Γ : CTY) (ws : va_W) (k n : Nat) (pc : Nat) (L : List (Option Value)) (st : List Value) : Prop := match Γ with
  | (p, l, e, R, s, m, args, below, meth, c, Q, A, H0, nL, D) => ∀ (H : Heap) (locs : List Loc) (ls : Array Slot), va_P D vwCl ws H → va_D A ws → va_S A H0 H locs → LV ls nL L → W p l e R s m args below meth c H locs k n Q (F0 m pc ls st)
def CY (l0 : Launch) (Z : EC) (Γ : CTY) (cc : ByteArray) (own : String) (rm : Room) (n0 : Nat) : Prop := match Γ with
  | (p, l, e, R, s, m, args, below, meth, c, Q, A, H0, nL, D) => p.tables.exec = Jvm.exec ∧ c.code = cc ∧ c.maxLocals = nL ∧ nL = n0 ∧ s.vm.findClass own = some m.cls ∧ (∀ w ∈ wsL_law, w.before args s = true) ∧ va_K D vwCl (tyZ Z) s ∧ (∀ q : Nat, H0.size ≤ q → A q) ∧ R = rm ∧ l = l0 ∧ D = Z.1 ∧ NW s ∧ va_AO "TideSeats$Sheet" s ∧ va_AOA .int s
def IY (Γ : CTY) : Prop := match Γ with
  | (p, l, e, R, s, m, args, below, meth, c, Q, A, H0, nL, D) => meth.name = "<init>"
theorem va_Prefs {D : va_G} {cl : List vw_C} {ws : va_W} {H : Heap} {k a N : Nat} {c : ClassId} {f g : Nat → Option Nat} (hP : va_P D cl ws H) (hk : ws[k]? = some (a, .inl (c, N, .inr (.inr (.inr (.inr f)))))) (hfg : ∀ i, i < N → f i = g i) : va_P D cl (ws.set k (a, .inl (c, N, .inr (.inr (.inr (.inr g)))))) H := by
  intro j q hj
  by_cases e : j = k
  · subst e
    have hl := (List.getElem?_eq_some_iff.mp hk).1
    rw [List.getElem?_set_self hl] at hj
    cases hj
    have h0 : H[a]? = some (vp_cell c (N, .inr (.inr (.inr (.inr f))))) := hP j _ hk
    show H[a]? = some (vp_cell c (N, .inr (.inr (.inr (.inr g)))))
    rw [h0, vp_cell_q, vp_cell_q]
    congr 1
    unfold arrV
    congr 1
    congr 1
    funext i
    show va_rf (f i.1) = va_rf (g i.1)
    rw [hfg i.1 i.2]
  · rw [List.getElem?_set_ne (fun q => e q.symm)] at hj
    exact hP j q hj
theorem join_app {A0 : Nat → Prop} {D : va_G} {cl : List vw_C} {wr w w1 : va_W} {H H1 : Heap} (hP : va_P D cl (wr ++ w) H) (hD : va_D A0 (wr ++ w)) (hk : ∀ q : Nat, q < H.size → ¬ va_A w H.size q → H1[q]? = H[q]?) (hF : ∀ q, va_A w H.size q → A0 q) (hP1 : va_P D cl w1 H1) (hD1 : va_D (va_A w H.size) w1) : va_P D cl (wr ++ w1) H1 ∧ va_D A0 (wr ++ w1) := by
  have at0 : ∀ (k : Nat) (q : Nat × va_E), wr[k]? = some q → (wr ++ w)[k]? = some q := fun k q hq => by
    rw [List.getElem?_append_left (List.getElem?_eq_some_iff.mp hq).1]; exact hq
  have apart : ∀ (k : Nat) (q : Nat × va_E), wr[k]? = some q → q.1 < H.size ∧ ¬ va_A w H.size q.1 := by
    intro k q hq
    have hl := (hP k q (at0 k q hq)).lt
    refine ⟨hl, fun h => ?_⟩
    rcases h with ⟨k2, e, h⟩ | h
    · have h2 : (wr ++ w)[wr.length + k2]? = some (q.1, e) := by
        rw [List.getElem?_append_right (by omega), Nat.add_sub_cancel_left]; exact h
      have hij := hD.1 k (wr.length + k2) q (q.1, e) (at0 k q hq) h2 rfl
      have := (List.getElem?_eq_some_iff.mp hq).1
      omega
    · omega
  have hDr : va_D A0 wr := ⟨fun i j x y hi hj hxy => hD.1 i j x y (at0 i x hi) (at0 j y hj) hxy, fun k q hq => hD.2 k q (at0 k q hq)⟩
  refine ⟨va_P.app (fun k q hq => ?_) hP1, va_D.app hDr (hD1.weaken (fun k q _ h => hF q.1 h)) (fun i j x y hx hy hxy => ?_)⟩
  · obtain ⟨g1, g2⟩ := apart k q hq
    exact (hP k q (at0 k q hq)).kept (hk q.1 g1 g2)
  · exact (apart i x hx).2 (by rw [hxy]; exact hD1.2 j y hy)
theorem app_r {D : va_G} {cl : List vw_C} {wr w : va_W} {H : Heap} (hP : va_P D cl (wr ++ w) H) : va_P D cl w H := fun k q hq => hP (wr.length + k) q (by rw [List.getElem?_append_right (by omega), Nat.add_sub_cancel_left]; exact hq)
theorem appD_r {A : Nat → Prop} {wr w : va_W} (hD : va_D A (wr ++ w)) : va_D A w := by
  have at0 : ∀ (k : Nat) (q : Nat × va_E), w[k]? = some q → (wr ++ w)[wr.length + k]? = some q := fun k q hq => by
    rw [List.getElem?_append_right (by omega), Nat.add_sub_cancel_left]; exact hq
  refine ⟨fun i j x y hi hj hxy => ?_, fun k q hq => hD.2 _ q (at0 k q hq)⟩
  have := hD.1 _ _ x y (at0 i x hi) (at0 j y hj) hxy
  omega
theorem app_sw {D : va_G} {cl : List vw_C} {a b : va_W} {H : Heap} (hP : va_P D cl (a ++ b) H) : va_P D cl (b ++ a) H := va_P.swap (a := []) hP
theorem appD_sw {A : Nat → Prop} {a b : va_W} (hD : va_D A (a ++ b)) : va_D A (b ++ a) := va_D.swap (a := []) hD
section YR
variable {l0 : Launch} {Z : EC} {Γ : CTY} {ws : va_W} {k n : Nat} {cc : ByteArray} {own : String} {rm : Room} {n0 pc : Nat} {L : List (Option Value)} {st : List Value}
theorem Y_drop {L' : List (Option Value)} (h : lsub L' L) (kk : YJ Γ ws k n pc L' st) : YJ Γ ws k n pc L st := by
  obtain ⟨p, l, e, R, s, m, args, below, meth, c, Q, A, H0, nL, D⟩ := Γ
  exact fun H locs ls hP hD hS hL => kk H locs ls hP hD hS (hL.drop (lsub_at _ _ h))
theorem Y_eq {ws1 : va_W} (h : ws = ws1) (kk : YJ Γ ws1 k n pc L st) : YJ Γ ws k n pc L st := h ▸ kk
theorem Y_eq2 {k1 n1 : Nat} (h1 : k = k1) (h2 : n = n1) (kk : YJ Γ ws k1 n1 pc L st) : YJ Γ ws k n pc L st := h1 ▸ h2 ▸ kk
theorem Y_widen {k1 n1 : Nat} (h1 : k ≤ k1) (h2 : n ≤ n1) (kk : YJ Γ ws k1 n1 pc L st) : YJ Γ ws k n pc L st := by
  obtain ⟨p, l, e, R, s, m, args, below, meth, c, Q, A, H0, nL, D⟩ := Γ
  exact fun H locs ls hP hD hS hL => W.widen h1 h2 (kk H locs ls hP hD hS hL)
theorem Y_sub {ws1 : va_W} (is : List Nat) (hn : va_nd is = true) (hf : is.filterMap (fun i => ws[i]?) = ws1) (hs : is.map (fun i => ws[i]?) = ws1.map some) (kk : YJ Γ ws1 k n pc L st) : YJ Γ ws k n pc L st := by
  obtain ⟨p, l, e, R, s, m, args, below, meth, c, Q, A, H0, nL, D⟩ := Γ
  exact fun H locs ls hP hD hS hL => kk H locs ls (hP.sub is hf) (hD.sub is hn hs) hS hL
theorem Y_refs {q0 a N : Nat} {cA : ClassId} {f g : Nat → Option Nat} {ws1 : va_W} (he : ws[q0]? = some (a, .inl (cA, N, .inr (.inr (.inr (.inr f)))))) (hfg : ∀ i, i < N → f i = g i) (h1 : ws.set q0 (a, .inl (cA, N, .inr (.inr (.inr (.inr g))))) = ws1) (kk : YJ Γ ws1 k n pc L st) : YJ Γ ws k n pc L st := by
  obtain ⟨p, l, e, R, s, m, args, below, meth, c, Q, A, H0, nL, D⟩ := Γ
  subst h1
  exact fun H locs ls hP hD hS hL => kk H locs ls (va_Prefs hP he hfg) (hD.set he) hS hL
theorem Y_aload_n (C : CY l0 Z Γ cc own rm n0) {j : Fin 4} {i : Nat} {v : Nat} (d : decode cc pc = .ok (.aload_n j, 1)) (hj : (j : Nat) = i) (h : L[i]? = some (some (.ref v))) (kk : YJ Γ ws k n (pc + 1) L (.ref v :: st)) : YJ Γ ws k n pc L st := by
  obtain ⟨p, l, e, R, s, m, args, below, meth, c, Q, A, H0, nL, D⟩ := Γ
  obtain ⟨hx, hb, hml, hn, hown, hts, hK, hA, hR, hl0, hD0, hNW, hAO, hAA⟩ := C
  exact fun H locs ls hP hD hS hL => lv_aload_n hx hb d hj (hL.2.2 i _ h) (kk H locs ls hP hD hS hL)
theorem Y_iload_n (C : CY l0 Z Γ cc own rm n0) {j : Fin 4} {i : Nat} {v : Int32} (d : decode cc pc = .ok (.iload_n j, 1)) (hj : (j : Nat) = i) (h : L[i]? = some (some (.int v))) (kk : YJ Γ ws k n (pc + 1) L (.int v :: st)) : YJ Γ ws k n pc L st := by
  obtain ⟨p, l, e, R, s, m, args, below, meth, c, Q, A, H0, nL, D⟩ := Γ
  obtain ⟨hx, hb, hml, hn, hown, hts, hK, hA, hR, hl0, hD0, hNW, hAO, hAA⟩ := C
  exact fun H locs ls hP hD hS hL => lv_iload_n hx hb d hj (hL.2.2 i _ h) (kk H locs ls hP hD hS hL)
theorem Y_iconst (C : CY l0 Z Γ cc own rm n0) {z : Int} {v : Int32} (d : decode cc pc = .ok (.iconst z, 1)) (hv : Int32.ofInt z = v) (kk : YJ Γ ws k n (pc + 1) L (.int v :: st)) : YJ Γ ws k n pc L st := by
  obtain ⟨p, l, e, R, s, m, args, below, meth, c, Q, A, H0, nL, D⟩ := Γ
  obtain ⟨hx, hb, hml, hn, hown, hts, hK, hA, hR, hl0, hD0, hNW, hAO, hAA⟩ := C
  exact fun H locs ls hP hD hS hL => lv_iconst hx hb d hv (kk H locs ls hP hD hS hL)
theorem Y_bipush (C : CY l0 Z Γ cc own rm n0) {z : Int} {v : Int32} (d : decode cc pc = .ok (.bipush z, 2)) (hv : (Int8.ofInt z).toInt32 = v) (kk : YJ Γ ws k n (pc + 2) L (.int v :: st)) : YJ Γ ws k n pc L st := by
  obtain ⟨p, l, e, R, s, m, args, below, meth, c, Q, A, H0, nL, D⟩ := Γ
  obtain ⟨hx, hb, hml, hn, hown, hts, hK, hA, hR, hl0, hD0, hNW, hAO, hAA⟩ := C
  exact fun H locs ls hP hD hS hL => lv_bipush hx hb d hv (kk H locs ls hP hD hS hL)
theorem Y_sipush (C : CY l0 Z Γ cc own rm n0) {z : Int} {v : Int32} (d : decode cc pc = .ok (.sipush z, 3)) (hv : (Int16.ofInt z).toInt32 = v) (kk : YJ Γ ws k n (pc + 3) L (.int v :: st)) : YJ Γ ws k n pc L st := by
  obtain ⟨p, l, e, R, s, m, args, below, meth, c, Q, A, H0, nL, D⟩ := Γ
  obtain ⟨hx, hb, hml, hn, hown, hts, hK, hA, hR, hl0, hD0, hNW, hAO, hAA⟩ := C
  exact fun H locs ls hP hD hS hL => lv_sipush hx hb d hv (kk H locs ls hP hD hS hL)
theorem Y_dup (C : CY l0 Z Γ cc own rm n0) {v : Value} (d : decode cc pc = .ok (.dup, 1)) (hv : v.category = 1) (kk : YJ Γ ws k n (pc + 1) L (v :: v :: st)) : YJ Γ ws k n pc L (v :: st) := by
  obtain ⟨p, l, e, R, s, m, args, below, meth, c, Q, A, H0, nL, D⟩ := Γ
  obtain ⟨hx, hb, hml, hn, hown, hts, hK, hA, hR, hl0, hD0, hNW, hAO, hAA⟩ := C
  exact fun H locs ls hP hD hS hL => lv_dup hx hb d hv (kk H locs ls hP hD hS hL)
theorem Y_goto (C : CY l0 Z Γ cc own rm n0) {off : Int} {tgt : Nat} (d : decode cc pc = .ok (.goto off, 3)) (ht : (pc : Int) + off = (tgt : Int)) (kk : YJ Γ ws k n tgt L st) : YJ Γ ws k n pc L st := by
  obtain ⟨p, l, e, R, s, m, args, below, meth, c, Q, A, H0, nL, D⟩ := Γ
  obtain ⟨hx, hb, hml, hn, hown, hts, hK, hA, hR, hl0, hD0, hNW, hAO, hAA⟩ := C
  exact fun H locs ls hP hD hS hL => lv_goto hx hb d ht (kk H locs ls hP hD hS hL)
theorem Y_iadd (C : CY l0 Z Γ cc own rm n0) {a b v : Int32} (d : decode cc pc = .ok (.iadd, 1)) (hv : a + b = v) (kk : YJ Γ ws k n (pc + 1) L (.int v :: st)) : YJ Γ ws k n pc L (.int b :: .int a :: st) := by
  obtain ⟨p, l, e, R, s, m, args, below, meth, c, Q, A, H0, nL, D⟩ := Γ
  obtain ⟨hx, hb, hml, hn, hown, hts, hK, hA, hR, hl0, hD0, hNW, hAO, hAA⟩ := C
  exact fun H locs ls hP hD hS hL => lv_iadd hx hb d (hv ▸ kk H locs ls hP hD hS hL)
theorem Y_isub (C : CY l0 Z Γ cc own rm n0) {a b v : Int32} (d : decode cc pc = .ok (.isub, 1)) (hv : a - b = v) (kk : YJ Γ ws k n (pc + 1) L (.int v :: st)) : YJ Γ ws k n pc L (.int b :: .int a :: st) := by
  obtain ⟨p, l, e, R, s, m, args, below, meth, c, Q, A, H0, nL, D⟩ := Γ
  obtain ⟨hx, hb, hml, hn, hown, hts, hK, hA, hR, hl0, hD0, hNW, hAO, hAA⟩ := C
  exact fun H locs ls hP hD hS hL => lv_isub hx hb d (hv ▸ kk H locs ls hP hD hS hL)
theorem Y_iand (C : CY l0 Z Γ cc own rm n0) {a b v : Int32} (d : decode cc pc = .ok (.iand, 1)) (hv : a &&& b = v) (kk : YJ Γ ws k n (pc + 1) L (.int v :: st)) : YJ Γ ws k n pc L (.int b :: .int a :: st) := by
  obtain ⟨p, l, e, R, s, m, args, below, meth, c, Q, A, H0, nL, D⟩ := Γ
  obtain ⟨hx, hb, hml, hn, hown, hts, hK, hA, hR, hl0, hD0, hNW, hAO, hAA⟩ := C
  exact fun H locs ls hP hD hS hL => lv_iand hx hb d (hv ▸ kk H locs ls hP hD hS hL)
theorem Y_icmp_ge (C : CY l0 Z Γ cc own rm n0) {a b : Int32} {off : Int} {tgt : Nat} (d : decode cc pc = .ok (.if_icmp .ge off, 3)) (ht : (pc : Int) + off = (tgt : Int)) (kt : b ≤ a → YJ Γ ws k n tgt L st) (kf : ¬ b ≤ a → YJ Γ ws k n (pc + 3) L st) : YJ Γ ws k n pc L (.int b :: .int a :: st) := by
  obtain ⟨p, l, e, R, s, m, args, below, meth, c, Q, A, H0, nL, D⟩ := Γ
  obtain ⟨hx, hb, hml, hn, hown, hts, hK, hA, hR, hl0, hD0, hNW, hAO, hAA⟩ := C
  exact fun H locs ls hP hD hS hL => lv_icmp_ge hx hb d ht (fun hh => kt hh H locs ls hP hD hS hL) (fun hh => kf hh H locs ls hP hD hS hL)
theorem Y_icmp_gt (C : CY l0 Z Γ cc own rm n0) {a b : Int32} {off : Int} {tgt : Nat} (d : decode cc pc = .ok (.if_icmp .gt off, 3)) (ht : (pc : Int) + off = (tgt : Int)) (kt : b < a → YJ Γ ws k n tgt L st) (kf : ¬ b < a → YJ Γ ws k n (pc + 3) L st) : YJ Γ ws k n pc L (.int b :: .int a :: st) := by
  obtain ⟨p, l, e, R, s, m, args, below, meth, c, Q, A, H0, nL, D⟩ := Γ
  obtain ⟨hx, hb, hml, hn, hown, hts, hK, hA, hR, hl0, hD0, hNW, hAO, hAA⟩ := C
  exact fun H locs ls hP hD hS hL => lv_icmp_gt hx hb d ht (fun hh => kt hh H locs ls hP hD hS hL) (fun hh => kf hh H locs ls hP hD hS hL)
theorem Y_icmp_eq (C : CY l0 Z Γ cc own rm n0) {a b : Int32} {off : Int} {tgt : Nat} (d : decode cc pc = .ok (.if_icmp .eq off, 3)) (ht : (pc : Int) + off = (tgt : Int)) (kt : a = b → YJ Γ ws k n tgt L st) (kf : ¬ a = b → YJ Γ ws k n (pc + 3) L st) : YJ Γ ws k n pc L (.int b :: .int a :: st) := by
  obtain ⟨p, l, e, R, s, m, args, below, meth, c, Q, A, H0, nL, D⟩ := Γ
  obtain ⟨hx, hb, hml, hn, hown, hts, hK, hA, hR, hl0, hD0, hNW, hAO, hAA⟩ := C
  exact fun H locs ls hP hD hS hL => lv_icmp_eq hx hb d ht (fun hh => kt hh H locs ls hP hD hS hL) (fun hh => kf hh H locs ls hP hD hS hL)
theorem Y_if_eq (C : CY l0 Z Γ cc own rm n0) {a : Int32} {off : Int} {tgt : Nat} (d : decode cc pc = .ok (.ifCond .eq off, 3)) (ht : (pc : Int) + off = (tgt : Int)) (kt : a = 0 → YJ Γ ws k n tgt L st) (kf : ¬ a = 0 → YJ Γ ws k n (pc + 3) L st) : YJ Γ ws k n pc L (.int a :: st) := by
  obtain ⟨p, l, e, R, s, m, args, below, meth, c, Q, A, H0, nL, D⟩ := Γ
  obtain ⟨hx, hb, hml, hn, hown, hts, hK, hA, hR, hl0, hD0, hNW, hAO, hAA⟩ := C
  exact fun H locs ls hP hD hS hL => lv_if_eq hx hb d ht (fun hh => kt hh H locs ls hP hD hS hL) (fun hh => kf hh H locs ls hP hD hS hL)
theorem Y_lcmp (C : CY l0 Z Γ cc own rm n0) {a b : Int64} (d : decode cc pc = .ok (.lcmp, 1)) (kk : YJ Γ ws k n (pc + 1) L (.int (lg_cmp a b) :: st)) : YJ Γ ws k n pc L (.long b :: .long a :: st) := by
  obtain ⟨p, l, e, R, s, m, args, below, meth, c, Q, A, H0, nL, D⟩ := Γ
  obtain ⟨hx, hb, hml, hn, hown, hts, hK, hA, hR, hl0, hD0, hNW, hAO, hAA⟩ := C
  exact fun H locs ls hP hD hS hL => W.lcmp hx hb d (kk H locs ls hP hD hS hL)
theorem Y_istore_n (C : CY l0 Z Γ cc own rm n0) {j : Fin 4} {i : Nat} {v : Int32} {L' : List (Option Value)} (d : decode cc pc = .ok (.istore_n j, 1)) (hj : (j : Nat) = i) (hi : i < n0) (hc : chk L i = true) (hl : L.set i (some (.int v)) = L') (kk : YJ Γ ws k n (pc + 1) L' st) : YJ Γ ws k n pc L (.int v :: st) := by
  obtain ⟨p, l, e, R, s, m, args, below, meth, c, Q, A, H0, nL, D⟩ := Γ
  obtain ⟨hx, hb, hml, hn, hown, hts, hK, hA, hR, hl0, hD0, hNW, hAO, hAA⟩ := C
  exact fun H locs ls hP hD hS hL => lv_istore_n hx hb d hj hL.has (hn ▸ hi) rfl (fun ls hl2 => kk H locs ls hP hD hS (hl ▸ LV.put hc hl2))
theorem Y_astore_n (C : CY l0 Z Γ cc own rm n0) {j : Fin 4} {i : Nat} {v : Nat} {L' : List (Option Value)} (d : decode cc pc = .ok (.astore_n j, 1)) (hj : (j : Nat) = i) (hi : i < n0) (hc : chk L i = true) (hl : L.set i (some (.ref v)) = L') (kk : YJ Γ ws k n (pc + 1) L' st) : YJ Γ ws k n pc L (.ref v :: st) := by
  obtain ⟨p, l, e, R, s, m, args, below, meth, c, Q, A, H0, nL, D⟩ := Γ
  obtain ⟨hx, hb, hml, hn, hown, hts, hK, hA, hR, hl0, hD0, hNW, hAO, hAA⟩ := C
  exact fun H locs ls hP hD hS hL => lv_astore_n hx hb d hj hL.has (hn ▸ hi) rfl (fun ls hl2 => kk H locs ls hP hD hS (hl ▸ LV.put hc hl2))
theorem Y_iinc (C : CY l0 Z Γ cc own rm n0) {i : Nat} {z : Int} {a v : Int32} {L' : List (Option Value)} (d : decode cc pc = .ok (.iinc i z, 3)) (h : L[i]? = some (some (.int a))) (hv : a + Int32.ofInt z = v) (hi : i < n0) (hc : chk L i = true) (hl : L.set i (some (.int v)) = L') (kk : YJ Γ ws k n (pc + 3) L' st) : YJ Γ ws k n pc L st := by
  obtain ⟨p, l, e, R, s, m, args, below, meth, c, Q, A, H0, nL, D⟩ := Γ
  obtain ⟨hx, hb, hml, hn, hown, hts, hK, hA, hR, hl0, hD0, hNW, hAO, hAA⟩ := C
  obtain ⟨k9, hkk⟩ := lvp_at h
  exact fun H locs ls hP hD hS hL => lv_iinc hx hb d hL.has hkk hv (hn ▸ hi) rfl (fun ls hl2 => kk H locs ls hP hD hS (hl ▸ LV.put hc hl2))
theorem Y_tabOut (C : CY l0 Z Γ cc own rm n0) {dflt lo hi : Int} {offs : Array Int} {len : Nat} {v : Int32} {tgt : Nat} (d : decode cc pc = .ok (.tableswitch dflt lo hi offs, len)) (h : v.toInt < lo ∨ hi < v.toInt) (ht : (pc : Int) + dflt = (tgt : Int)) (kk : YJ Γ ws k n tgt L st) : YJ Γ ws k n pc L (.int v :: st) := by
  obtain ⟨p, l, e, R, s, m, args, below, meth, c, Q, A, H0, nL, D⟩ := Γ
  obtain ⟨hx, hb, hml, hn, hown, hts, hK, hA, hR, hl0, hD0, hNW, hAO, hAA⟩ := C
  exact fun H locs ls hP hD hS hL => lv_tableOut hx hb d h ht (kk H locs ls hP hD hS hL)
theorem Y_tabIn (C : CY l0 Z Γ cc own rm n0) {dflt lo hi : Int} {offs : Array Int} {len : Nat} {v : Int32} {off : Int} {tgt : Nat} (d : decode cc pc = .ok (.tableswitch dflt lo hi offs, len)) (h1 : ¬ v.toInt < lo) (h2 : ¬ hi < v.toInt) (ho : offs[(v.toInt - lo).toNat]? = some off) (ht : (pc : Int) + off = (tgt : Int)) (kk : YJ Γ ws k n tgt L st) : YJ Γ ws k n pc L (.int v :: st) := by
  obtain ⟨p, l, e, R, s, m, args, below, meth, c, Q, A, H0, nL, D⟩ := Γ
  obtain ⟨hx, hb, hml, hn, hown, hts, hK, hA, hR, hl0, hD0, hNW, hAO, hAA⟩ := C
  exact fun H locs ls hP hD hS hL => lv_tableIn hx hb d h1 h2 ho ht (kk H locs ls hP hD hS hL)
theorem Y_new (C : CY l0 Z Γ cc own rm n0) {Cn : String} {T : u_T} {N ci index : Nat} (hin : ∀ w ∈ u_ws Cn T N, w ∈ wsL_law) (ty0 : Nat → FieldType) (hty0 : ∀ k, k < N → parseFieldDescriptor (T k).2.2.1 = some (ty0 k)) (hcl : Cond.classLink own index Cn ∈ wsL_law) (hinst : Cond.instantiable Cn N ∈ wsL_law) (hini : Cond.initialized Cn ∈ wsL_law) (hc : vwCl[ci]? = some (Cn, T, N)) {fs : List Value} (hfs : ∀ j, j < N → defaultValue (ty0 j) = vp_V fs j) (hk : k + 1 ≤ rm.cells) (hn1 : n + N ≤ rm.slots) (d : decode cc pc = .ok (.new index, 3)) (kk : ∀ q : Nat, YJ Γ (ws ++ [(q, .inr (ci, fs))]) (k + 1) (n + N) (pc + 3) L (.ref q :: st)) : YJ Γ ws k n pc L st := by
  obtain ⟨p, l, e, R, s, m, args, below, meth, c, Q, A, H0, nL, D⟩ := Γ
  obtain ⟨hx, hb, hml, hn, hown, hts, hK, hA, hR, hl0, hD0, hNW, hAO, hAA⟩ := C
  subst hD0
  subst hR
  exact fun H locs ls hP hD hS hL => va_new hx hb hts hin ty0 hty0 hown (hts _ hcl) (hts _ hinst) (hts _ hini) hK hP hD hS hA hc hfs hk hn1 d (fun q H1 hP1 hD1 hS1 => kk q H1 locs ls hP1 hD1 hS1 hL)
theorem Y_newa (C : CY l0 Z Γ cc own rm n0) {N : Nat} (hia : Cond.arrayClass .int ∈ wsL_law) (hN : N ≤ 1000) (hk : k + 1 ≤ rm.cells) (hn1 : n + N ≤ rm.slots) (d : decode cc pc = .ok (.newarray .int, 2)) (kk : ∀ q : Nat, YJ Γ (ws ++ [(q, .inl (Z.2.2.1, N, .inl (fun _ => 0)))]) (k + 1) (n + N) (pc + 2) L (.ref q :: st)) : YJ Γ ws k n pc L (.int (nI N) :: st) := by
  obtain ⟨p, l, e, R, s, m, args, below, meth, c, Q, A, H0, nL, D⟩ := Γ
  obtain ⟨hx, hb, hml, hn, hown, hts, hK, hA, hR, hl0, hD0, hNW, hAO, hAA⟩ := C
  subst hD0
  subst hR
  intro H locs ls hP hD hS hL
  refine va_newa (atype := .int) (ty := .int) (N' := N) (a0 := (N, .inl (fun _ => 0))) hx hb (hts _ hia) rfl hK hP hD hS hA (fun cA => rfl) (nI_lt0 (by omega)) (nI_clamp (by omega)) (by show N * 4 ≤ 536870912; omega) hk hn1 d (fun q cA H1 hK1 hP1 hD1 hS1 => ?_)
  have e : cA = Z.2.2.1 := by
    have h1 := va_nm_int (hK1.2 3 (cA, .int) rfl).2
    have h2 := va_nm_int (hK1.2 0 (Z.2.2.1, .int) rfl).2
    exact Option.some.inj (h1.symm.trans h2)
  subst e
  exact kk q H1 locs ls hP1 hD1 hS1 hL
theorem Y_newq (C : CY l0 Z Γ cc own rm n0) {N index : Nat} (hcl : Cond.classLink own index "TideSeats$Sheet" ∈ wsL_law) (hN : N ≤ 1000) (hk : k + 1 ≤ rm.cells) (hn1 : n + N ≤ rm.slots) (d : decode cc pc = .ok (.anewarray index, 3)) (kk : ∀ q : Nat, YJ Γ (ws ++ [(q, .inl (Z.2.2.2.1, N, .inr (.inr (.inr (.inr (fun _ => none))))))]) (k + 1) (n + N) (pc + 3) L (.ref q :: st)) : YJ Γ ws k n pc L (.int (nI N) :: st) := by
  obtain ⟨p, l, e, R, s, m, args, below, meth, c, Q, A, H0, nL, D⟩ := Γ
  obtain ⟨hx, hb, hml, hn, hown, hts, hK, hA, hR, hl0, hD0, hNW, hAO, hAA⟩ := C
  subst hD0
  subst hR
  intro H locs ls hP hD hS hL
  refine va_newq (C := "TideSeats$Sheet") (N' := N) hx hb hown (hts _ hcl) hAO hK hP hD hS hA (nI_lt0 (by omega)) (nI_clamp (by omega)) (by omega) hk hn1 d (fun q cA H1 hK1 hP1 hD1 hS1 => ?_)
  have e : cA = Z.2.2.2.1 := by
    obtain ⟨k1, c1, a1, a2, a3, a4⟩ := (hK1.2 3 (cA, .object "TideSeats$Sheet") rfl).2
    obtain ⟨k2, c2, b1, b2, b3, b4⟩ := (hK1.2 1 (Z.2.2.2.1, .object "TideSeats$Sheet") rfl).2
    exact Option.some.inj (a4.symm.trans b4)
  subst e
  exact kk q H1 locs ls hP1 hD1 hS1 hL
theorem Y_mna (C : CY l0 Z Γ cc own rm n0) {index : Nat} (hcl : Cond.classLink own index "[[I" ∈ wsL_law) (hia : Cond.arrayClass .int ∈ wsL_law) (hk : k + 7 ≤ rm.cells) (hn1 : n + 66 ≤ rm.slots) (d : decode cc pc = .ok (.multianewarray index 2, 4)) (kk : ∀ (q : Nat) (r : Nat → Nat), YJ Γ (ws ++ [(q, .inl (Z.2.2.2.2, 6, .inr (.inr (.inr (.inr (fun i => if i < 6 then some (r i) else none)))))), (r 0, .inl (Z.2.2.1, 10, .inl (fun _ => 0))), (r 1, .inl (Z.2.2.1, 10, .inl (fun _ => 0))), (r 2, .inl (Z.2.2.1, 10, .inl (fun _ => 0))), (r 3, .inl (Z.2.2.1, 10, .inl (fun _ => 0))), (r 4, .inl (Z.2.2.1, 10, .inl (fun _ => 0))), (r 5, .inl (Z.2.2.1, 10, .inl (fun _ => 0)))]) (k + 7) (n + 66) (pc + 4) L (.ref q :: st)) : YJ Γ ws k n pc L (.int (nI 10) :: .int (nI 6) :: st) := by
  obtain ⟨p, l, e, R, s, m, args, below, meth, c, Q, A, H0, nL, D⟩ := Γ
  obtain ⟨hx, hb, hml, hn, hown, hts, hK, hA, hR, hl0, hD0, hNW, hAO, hAA⟩ := C
  subst hD0
  subst hR
  intro H locs ls hP hD hS hL
  have hcl2 : (Cond.classLink own index ("[" ++ (FieldType.array .int).toString)).before args s = true := by
    have e : "[" ++ (FieldType.array .int).toString = "[[I" := by decide +kernel
    rw [e]; exact hts _ hcl
  have hcy : s.vm.findClass (FieldType.array .int).toString = some Z.2.2.1 := va_nm_int (hK.2 0 (Z.2.2.1, .int) rfl).2
  refine va_mna (ty := .int) (cy := Z.2.2.1) (X := ws) (L := []) (f := fun _ => .inl (Z.2.2.1, 10, .inl (fun _ => 0))) (N' := 6) (K' := 10) (z := (10, .inl (fun _ => 0))) hx hb hown hcl2 hAA (hts _ hia) hcy hK (by rw [show va_pl [] _ = ([] : va_W) from rfl, List.append_nil]; exact hP) (by rw [show va_pl [] _ = ([] : va_W) from rfl, List.append_nil]; exact hD) hS hA (nI_lt0 (by omega)) (nI_lt0 (by omega)) (nI_clamp (by omega)) (nI_clamp (by omega)) (by omega) (by decide) (by omega) rfl rfl hk hn1 (fun cA => arrV_new cA 10 (.int 0)) d (fun q r cA H1 h1 h2 hK1 hP1 hD1 hS1 => ?_)
  have e : cA = Z.2.2.2.2 := by
    have h1 : s.vm.findClass ("[" ++ (FieldType.array .int).toString) = some cA := (hK1.2 3 (cA, .array .int) rfl).2
    have h2 : s.vm.findClass ("[" ++ (FieldType.array .int).toString) = some Z.2.2.2.2 := (hK1.2 2 (Z.2.2.2.2, .array .int) rfl).2
    exact Option.some.inj (h1.symm.trans h2)
  subst e
  rw [← vr_rows (fun a _ => List.not_mem_nil)] at hP1 hD1
  refine kk q r H1 locs ls ?_ ?_ hS1 hL
  · rw [List.append_assoc] at hP1; exact hP1
  · rw [List.append_assoc] at hD1; exact hD1
theorem Y_get (C : CY l0 Z Γ cc own rm n0) {ref Cn : String} {T : u_T} {N ci index : Nat} (hin : ∀ w ∈ u_ws Cn T N, w ∈ wsL_law) (q0 : Nat) {a : Nat} {fs : List Value} (he : ws[q0]? = some (a, .inr (ci, fs))) (hc : vwCl[ci]? = some (Cn, T, N)) (j : Nat) (hj : j < N) (hl : Cond.fieldLink own index ref (T j).2.1 (T j).2.2.1 ∈ wsL_law) (hr : (T j).1 = ref) {v : Value} (hv : fs[j]? = some v) (d : decode cc pc = .ok (.getfield index, 3)) (kk : YJ Γ ws k n (pc + 3) L (v :: st)) : YJ Γ ws k n pc L (.ref a :: st) := by
  obtain ⟨p, l, e, R, s, m, args, below, meth, c, Q, A, H0, nL, D⟩ := Γ
  obtain ⟨hx, hb, hml, hn, hown, hts, hK, hA, hR, hl0, hD0, hNW, hAO, hAA⟩ := C
  subst hD0
  exact fun H locs ls hP hD hS hL => va_get hx hb hts hin hown hK hP q0 he hc j hj (hts _ hl) (fun y hy => by rw [← hr]; exact hy) hv d (kk H locs ls hP hD hS hL)
theorem Y_put (C : CY l0 Z Γ cc own rm n0) {ref Cn : String} {T : u_T} {N ci index : Nat} (hin : ∀ w ∈ u_ws Cn T N, w ∈ wsL_law) (ty0 : Nat → FieldType) (hty0 : ∀ k, k < N → parseFieldDescriptor (T k).2.2.1 = some (ty0 k)) (hnm : ∀ a, a < N → ∀ b, b < N → a ≠ b → (T a).2.1 ≠ (T b).2.1) (q0 : Nat) {a : Nat} {fs : List Value} (he : ws[q0]? = some (a, .inr (ci, fs))) (hc : vwCl[ci]? = some (Cn, T, N)) (j : Nat) (hj : j < N) (hl : Cond.fieldLink own index ref (T j).2.1 (T j).2.2.1 ∈ wsL_law) (hr : (T j).1 = ref) (hfin : (T j).2.2.2 = false) {ty : FieldType} {v : Value} (hd : parseFieldDescriptor (T j).2.2.1 = some ty) (hna : narrow ty v = v) (hfit : fits ty v = true) (hfl : j < fs.length) {ws1 : va_W} (hx1 : ws.set q0 (a, .inr (ci, fs.set j v)) = ws1) (d : decode cc pc = .ok (.putfield index, 3)) (kk : YJ Γ ws1 k n (pc + 3) L st) : YJ Γ ws k n pc L (v :: .ref a :: st) := by
  obtain ⟨p, l, e, R, s, m, args, below, meth, c, Q, A, H0, nL, D⟩ := Γ
  obtain ⟨hx, hb, hml, hn, hown, hts, hK, hA, hR, hl0, hD0, hNW, hAO, hAA⟩ := C
  subst hD0
  subst hx1
  exact fun H locs ls hP hD hS hL => va_put hx hb hts hin ty0 hty0 hnm hown hK hP hD hS q0 he hc j hj (hts _ hl) (fun y hy => by rw [← hr]; exact hy) hfin hd hna hfit hfl d (fun H1 locs1 hP1 hD1 hS1 => kk H1 locs1 ls hP1 hD1 hS1 hL)
theorem Y_putF (C : CY l0 Z Γ cc own rm n0) (I : IY Γ) {ref Cn : String} {T : u_T} {N ci index : Nat} (hin : ∀ w ∈ u_ws Cn T N, w ∈ wsL_law) (ty0 : Nat → FieldType) (hty0 : ∀ k, k < N → parseFieldDescriptor (T k).2.2.1 = some (ty0 k)) (hnm : ∀ a, a < N → ∀ b, b < N → a ≠ b → (T a).2.1 ≠ (T b).2.1) (q0 : Nat) {a : Nat} {fs : List Value} (he : ws[q0]? = some (a, .inr (ci, fs))) (hc : vwCl[ci]? = some (Cn, T, N)) (j : Nat) (hj : j < N) (hl : Cond.fieldLink own index ref (T j).2.1 (T j).2.2.1 ∈ wsL_law) (hr : (T j).1 = ref) (hfin : (T j).2.2.2 = true) (hdecl : (T j).1 = own) {ty : FieldType} {v : Value} (hd : parseFieldDescriptor (T j).2.2.1 = some ty) (hna : narrow ty v = v) (hfit : fits ty v = true) (hfl : j < fs.length) {ws1 : va_W} (hx1 : ws.set q0 (a, .inr (ci, fs.set j v)) = ws1) (d : decode cc pc = .ok (.putfield index, 3)) (kk : YJ Γ ws1 k n (pc + 3) L st) : YJ Γ ws k n pc L (v :: .ref a :: st) := by
  obtain ⟨p, l, e, R, s, m, args, below, meth, c, Q, A, H0, nL, D⟩ := Γ
  obtain ⟨hx, hb, hml, hn, hown, hts, hK, hA, hR, hl0, hD0, hNW, hAO, hAA⟩ := C
  subst hD0
  subst hx1
  exact fun H locs ls hP hD hS hL => va_putF hx hb hts hin ty0 hty0 hnm hown hK hP hD hS q0 he hc j hj (hts _ hl) (fun y hy => by rw [← hr]; exact hy) hfin I hdecl hd hna hfit hfl d (fun H1 locs1 hP1 hD1 hS1 => kk H1 locs1 ls hP1 hD1 hS1 hL)
theorem Y_iast (C : CY l0 Z Γ cc own rm n0) (q0 : Nat) {a len : Nat} {f : Nat → Int32} (he : ws[q0]? = some (a, .inl (Z.2.2.1, len, .inl f))) {i : Nat} {v : Int32} (hi : i < len) (hlen : len ≤ 1000) {ws1 : va_W} (hx1 : ws.set q0 (a, .inl (Z.2.2.1, len, .inl (upd f i v))) = ws1) (d : decode cc pc = .ok (.iastore, 1)) (kk : YJ Γ ws1 k n (pc + 1) L st) : YJ Γ ws k n pc L (.int v :: .int (nI i) :: .ref a :: st) := by
  obtain ⟨p, l, e, R, s, m, args, below, meth, c, Q, A, H0, nL, D⟩ := Γ
  obtain ⟨hx, hb, hml, hn, hown, hts, hK, hA, hR, hl0, hD0, hNW, hAO, hAA⟩ := C
  subst hD0
  subst hx1
  have e : (nI i).toNatClampNeg = i := nI_clamp (by omega)
  exact fun H locs ls hP hD hS hL => va_iast hx hb hK hP hD hS q0 0 he rfl (vp_in_nI hi (by omega)) d (fun H1 locs1 hP1 hD1 hS1 => kk H1 locs1 ls (by rw [e] at hP1; exact hP1) (by rw [e] at hD1; exact hD1) hS1 hL)
theorem Y_astq (C : CY l0 Z Γ cc own rm n0) (q0 qk : Nat) {a v N : Nat} {vs : List Value} {f : Nat → Option Nat} (he : ws[q0]? = some (a, .inl (Z.2.2.2.1, N, .inr (.inr (.inr (.inr f)))))) (hv : ws[qk]? = some (v, .inr (3, vs))) {i : Nat} (hi : i < N) (hN : N ≤ 1000) {ws1 : va_W} (hx1 : ws.set q0 (a, .inl (Z.2.2.2.1, N, .inr (.inr (.inr (.inr (va_up f i (some v))))))) = ws1) (d : decode cc pc = .ok (.aastore, 1)) (kk : YJ Γ ws1 k n (pc + 1) L st) : YJ Γ ws k n pc L (.ref v :: .int (nI i) :: .ref a :: st) := by
  obtain ⟨p, l, e, R, s, m, args, below, meth, c, Q, A, H0, nL, D⟩ := Γ
  obtain ⟨hx, hb, hml, hn, hown, hts, hK, hA, hR, hl0, hD0, hNW, hAO, hAA⟩ := C
  subst hD0
  subst hx1
  have e : (nI i).toNatClampNeg = i := nI_clamp (by omega)
  exact fun H locs ls hP hD hS hL => va_astq (r := (RX3, TX3, 4)) hx hb hK hP hD hS q0 1 qk 3 he rfl hv rfl (vp_in_nI hi (by omega)) d (fun H1 locs1 hP1 hD1 hS1 => kk H1 locs1 ls (by rw [e] at hP1; exact hP1) (by rw [e] at hD1; exact hD1) hS1 hL)
theorem Y_obj (C : CY l0 Z Γ cc own rm n0) {idx a : Nat} (hl : Cond.methodLink own idx objectInit ∈ wsL_law) (h1 : Cond.instanceMethod objectInit ∈ wsL_law) (h2 : Cond.code objectInit ⟨#[0xb1]⟩ 1 none ∈ wsL_law) (hf : 1 ≤ rm.frames) (hlo : (st.map fun v => v.category).sum + 12 ≤ rm.locals) (d : decode cc pc = .ok (.invokespecial idx, 3)) (kk : YJ Γ ws k n (pc + 3) L st) : YJ Γ ws k n pc L (.ref a :: st) := by
  obtain ⟨p, l, e, R, s, m, args, below, meth, c, Q, A, H0, nL, D⟩ := Γ
  obtain ⟨hx, hb, hml, hn, hown, hts, hK, hA, hR, hl0, hD0, hNW, hAO, hAA⟩ := C
  subst hR
  exact fun H locs ls hP hD hS hL => W.objInit hx hb hown (hts _ hl) (hts _ h1) (hts _ h2) rfl (by rw [hml]; exact hL.1) rfl d hf (by show 2 * 0 + _ + 12 ≤ _; omega) (W.eq (g2 := F0 m (pc + 3) ls st) rfl (kk H locs ls hP hD hS hL))
end YR
/-! the contract of a constructor: its object's fields at their first values, then the object and what it makes -/
def Pn (Z : EC) (w : va_W) (sz : Nat) : State → Prop := fun U => U.heap.size = sz ∧ va_P Z.1 vwCl w U.heap ∧ va_K Z.1 vwCl (tyZ Z) U ∧ va_D (fun _ => True) w ∧ NW U ∧ va_AO "TideSeats$Sheet" U ∧ va_AOA .int U
def Bn {S : Type} (Z : EC) (w : va_W) (sz : Nat) (w1 : S → va_W) : S → State → Prop := fun u t => va_P Z.1 vwCl (w1 u) t.heap ∧ va_K Z.1 vwCl (tyZ Z) t ∧ va_D (va_A w sz) (w1 u)
def MN {S : Type} (l : Launch) (Z : EC) (y : MethodName) (cb : ByteArray) (mL : Nat) (rm : Room) (h0 : Nat) (w : va_W) (w1 : S → va_W) : Prop := ∀ sz : Nat, Met l y (Cond.code y cb mL none :: wsL_law) rm (va_Pc [.ref h0] (Pn Z w sz)) (va_Qv (fun _ : S => True) (Bn Z w sz w1) (va_A w sz)) rm.cells rm.slots (va_A w sz)
theorem Pn_blind {Z : EC} {w : va_W} {sz : Nat} {As : List Value} : FrameBlind (va_Pc As (Pn Z w sz)) := fun a U g mk q => by
  obtain ⟨q0, q1, qP, qK, qD, qN, qO, qA⟩ := q
  exact ⟨q0, q1, qP, va_K.moved (u := U) (U := U.calling g mk a) (Vm.Alike.refl U.vm) qK, qD, NW.same (u := U) (U := U.calling g mk a) rfl qN, va_AO.moved (u := U) (U := U.calling g mk a) (Vm.Alike.refl U.vm) qO, va_AOA.moved (u := U) (U := U.calling g mk a) (Vm.Alike.refl U.vm) qA⟩
theorem MN_of {S : Type} {l : Launch} {Z : EC} {y : MethodName} {cb : ByteArray} {mL : Nat} {rm : Room} {h0 : Nat} {w : va_W} {w1 : S → va_W} {own : String} {L0 : List (Option Value)} (hy : plainName y.cls = true) (hown0 : y.cls = own) (hnm : y.name = "<init>") (hlen : (lg_sl [.ref h0]).length ≤ mL) (hL0 : lsub L0 (lv0 [.ref h0])) (body : ∀ Γ : CTY, CY l Z Γ cb own rm mL → IY Γ → (∀ {pc : Nat} {L : List (Option Value)} (u : S), decode cb pc = .ok (.return_, 1) → YJ Γ (w1 u) rm.cells rm.slots pc L []) → YJ Γ w 0 0 0 L0 []) : MN l Z y cb mL rm h0 w w1 := by
  intro sz
  refine Met.ofW (cc := cb) (maxL := mL) (ret := none) hy rfl ?_
  intro p e s m args below meth c s₁ B hml hv
  obtain ⟨rfl, hsz, hP, hK, hD0, hNW, hAO, hAA⟩ := hv
  have hx := B.exec
  have hb := B.bytes
  have hr := B.returns
  have hts := atoms_spec (ws := Cond.code y cb mL (none) :: wsL_law) B.pre
  have hown : s.vm.findClass own = some m.cls := by rw [← hown0]; exact findClass_of_methodNamed B.named
  have hin : meth.name = "<init>" := (name_of_methodNamed B.named B.method).1.trans hnm
  have hlocks := B.notSynchronized
  subst hsz
  have hD := hD0.self (sz := s.heap.size)
  generalize hAe : va_A w s.heap.size = A at hD ⊢
  have hA : ∀ q : Nat, s.heap.size ≤ q → A q := fun q h => by rw [← hAe]; exact Or.inr h
  have hl := LV_entry hlen hL0
  rw [lg_entry_eq]
  refine body (p, l, e, rm, s, m, ([.ref h0] : List Value).toArray, below, meth, c, _, A, s.heap, mL, Z.1) ⟨hx, hb, hml, rfl, hown, fun u hu => hts u (List.mem_cons_of_mem _ hu), hK, hA, rfl, rfl, rfl, hNW, hAO, hAA⟩ hin ?_ s.heap [] _ hP hD va_S.rf hl
  intro pc L u hd H locs ls hP hD hS hL
  rw [← hAe] at hD hS ⊢
  exact W.vret hx hb hr (fun t ht hW => ⟨⟨u, rfl, trivial, by rw [ht]; exact hP, va_K.moved hW.alike hK, hD⟩, hS.F ht⟩) hS.2.2 hd
section YC
variable {l0 : Launch} {Z : EC} {Γ : CTY} {wr w : va_W} {k n : Nat} {cc : ByteArray} {own : String} {rm : Room} {n0 pc : Nat} {L : List (Option Value)} {st : List Value} {idx : Nat} {y : MethodName} {cb : ByteArray} {mL h0 : Nat} {rm2 : Room}
theorem AO_warm {C : String} {s U : State} (hW : s.WarmedH U.vm) (h : va_AO C s) : va_AO C U := va_AO.moved hW.alike h
theorem AA_warm {s U : State} (hW : s.WarmedH U.vm) (h : va_AOA .int s) : va_AOA .int U := va_AOA.moved hW.alike h
theorem Y_callN (C : CY l0 Z Γ cc own rm n0) {S : Type} {w1 : S → va_W} {host : String} (hM : MN l0 Z y cb mL rm2 h0 w w1) (hcw : Cond.methodLinkNest own idx y host ∈ NWs ∧ Cond.initialized y.cls ∈ wsL_law ∧ Cond.code y cb mL none ∈ wsL_law ∧ y.cls ≠ "java/lang/invoke/MethodHandle" ∧ y.cls ≠ "java/lang/invoke/VarHandle" ∧ (parseMethodDescriptor y.desc).map (fun d => d.parameters.length) = some 0) (hnm : y.name = "<init>") (hin : Cond.instanceMethod y ∈ wsL_law) (hsum : (st.map fun v => v.category).sum ≤ 8) (hk : k + rm2.cells ≤ rm.cells) (hn1 : n + rm2.slots ≤ rm.slots) (hrf : rm2.frames + 1 ≤ rm.frames) (hrl : 8 + (mL + 11) + rm2.locals ≤ rm.locals) (d : decode cc pc = .ok (.invokespecial idx, 3)) (kk : ∀ u : S, YJ Γ (wr ++ w1 u) (k + rm2.cells) (n + rm2.slots) (pc + 3) L st) : YJ Γ (wr ++ w) k n pc L (.ref h0 :: st) := by
  obtain ⟨p, l, e, R, s, m, args, below, meth, c, Q, A, H0, nL, D⟩ := Γ
  obtain ⟨hx, hb, hml, hn, hown, hts, hK, hA, hR, hl0, hD0, hNW, hAO, hAA⟩ := C
  subst hD0
  subst hR
  subst hl0
  intro H locs ls hP hD hS hL
  have hPc := app_r hP
  have hDc := appD_r hD
  have hFc : ∀ q, va_A w H.size q → A q := free_all hDc hS hA
  obtain ⟨g1, g2, g3, g4, g5, g6⟩ := hcw
  refine va_callv (va_runIN (As := []) (rest := st) ⟨hx, hb, hml.trans hn, hown, hts⟩ (hM H.size) ⟨⟨⟨rfl, rfl, hrf, hrl, pay_in hts (goodG g3), List.mem_cons_self⟩, hts _ g3, hts _ g2, ⟨g4, g5⟩, fun sig h => by rw [h] at g6; exact (Option.some.inj g6).symm, va_Nw.use rfl (hNW _ g1)⟩, hnm, hts _ hin⟩ ⟨Pn_blind, fun U hU hW => ⟨rfl, by rw [hU], by rw [hU]; exact hPc, va_K.moved hW.alike hK, hDc.weaken (fun _ _ _ _ => trivial), NW.warm hW hNW, AO_warm hW hAO, AA_warm hW hAA⟩⟩ rfl rfl (hL.1.trans hn) rfl (lv_room hsum) d ⟨hk, hn1⟩) hS (fun q _ h => hFc q h) hFc (fun u t H1 locs1 ht hvm hw hB hz1 hk1 hS => ?_)
  obtain ⟨hP1, hK1, hD1⟩ := hB
  rw [ht] at hP1
  obtain ⟨j1, j2⟩ := join_app hP hD hk1 hFc hP1 hD1
  exact kk u H1 locs1 ls j1 j2 hS hL
theorem Y_callI (C : CY l0 Z Γ cc own rm n0) {S : Type} {w1 : S → va_W} (hM : MN l0 Z y cb mL rm2 h0 w w1) (hcw : CWB own idx y cb mL none 0) (hnm : y.name = "<init>") (hin : Cond.instanceMethod y ∈ wsL_law) (hsum : (st.map fun v => v.category).sum ≤ 8) (hk : k + rm2.cells ≤ rm.cells) (hn1 : n + rm2.slots ≤ rm.slots) (hrf : rm2.frames + 1 ≤ rm.frames) (hrl : 8 + (mL + 11) + rm2.locals ≤ rm.locals) (d : decode cc pc = .ok (.invokespecial idx, 3)) (kk : ∀ u : S, YJ Γ (wr ++ w1 u) (k + rm2.cells) (n + rm2.slots) (pc + 3) L st) : YJ Γ (wr ++ w) k n pc L (.ref h0 :: st) := by
  obtain ⟨p, l, e, R, s, m, args, below, meth, c, Q, A, H0, nL, D⟩ := Γ
  obtain ⟨hx, hb, hml, hn, hown, hts, hK, hA, hR, hl0, hD0, hNW, hAO, hAA⟩ := C
  subst hD0
  subst hR
  subst hl0
  intro H locs ls hP hD hS hL
  have hPc := app_r hP
  have hDc := appD_r hD
  have hFc : ∀ q, va_A w H.size q → A q := free_all hDc hS hA
  obtain ⟨g1, g2, g3, g4, g5, g6⟩ := hcw
  refine va_callv (va_runI (As := []) (rest := st) ⟨hx, hb, hml.trans hn, hown, hts⟩ (hM H.size) ⟨⟨rfl, rfl, hrf, hrl, pay_in hts (goodG g3), List.mem_cons_self, hts _ g3, hts _ g2, ⟨g4, g5⟩, fun sig h => by rw [h] at g6; exact (Option.some.inj g6).symm, hts _ g1⟩, hnm, hts _ hin⟩ ⟨Pn_blind, fun U hU hW => ⟨rfl, by rw [hU], by rw [hU]; exact hPc, va_K.moved hW.alike hK, hDc.weaken (fun _ _ _ _ => trivial), NW.warm hW hNW, AO_warm hW hAO, AA_warm hW hAA⟩⟩ rfl rfl (hL.1.trans hn) rfl (lv_room hsum) d ⟨hk, hn1⟩) hS (fun q _ h => hFc q h) hFc (fun u t H1 locs1 ht hvm hw hB hz1 hk1 hS => ?_)
  obtain ⟨hP1, hK1, hD1⟩ := hB
  rw [ht] at hP1
  obtain ⟨j1, j2⟩ := join_app hP hD hk1 hFc hP1 hD1
  exact kk u H1 locs1 ls j1 j2 hS hL
end YC
theorem Y_callVi {l0 : Launch} {Z : EC} {Γ : CTY} {wr : va_W} {k n : Nat} {cc : ByteArray} {own : String} {rm : Room} {n0 pc : Nat} {L : List (Option Value)} {st st0 : List Value} {idx : Nat} {y : MethodName} {cb : ByteArray} {mL na : Nat} {rm2 : Room} {As : List Value} {X : Type} {w0 : X → va_W} {x : X} (C : CY l0 Z Γ cc own rm n0) {post : Int32 → X → Prop} {b q0 ci N : Nat} {Cn : String} {T : u_T} {fs : List Value} (hM : MIi l0 Z w0 y cb mL rm2 (.ref b :: As) x post) (hcw : CWB own idx y cb mL (some .int) na) (hin : Cond.instanceMethod y ∈ wsL_law) (hse : Cond.selects Cn y y ∈ wsL_law) (he : (w0 x)[q0]? = some (b, .inr (ci, fs))) (hc : vwCl[ci]? = some (Cn, T, N)) (hst : st0 = As.reverse ++ .ref b :: st) (hna : As.length = na) (hsum : (st.map fun v => v.category).sum ≤ 8) (hrc : rm2.cells = 0) (hrs : rm2.slots = 0) (hrf : rm2.frames + 1 ≤ rm.frames) (hrl : 8 + (mL + 11) + rm2.locals ≤ rm.locals) (hk : k ≤ rm.cells) (hn1 : n ≤ rm.slots) (d : decode cc pc = .ok (.invokevirtual idx, 3)) (kk : ∀ (r : Int32) (x1 : X), post r x1 → YJ Γ (wr ++ w0 x1) k n (pc + 3) L (.int r :: st)) : YJ Γ (wr ++ w0 x) k n pc L st0 := by
  obtain ⟨p, l, e, R, s, m, args, below, meth, c, Q, A, H0, nL, D⟩ := Γ
  obtain ⟨hx, hb, hml, hn, hown, hts, hK, hA, hR, hl0, hD0, hNW, hAO, hAA⟩ := C
  subst hD0
  subst hR
  subst hl0
  subst hst
  intro H locs ls hP hD hS hL
  have hPc := app_r hP
  have hDc := appD_r hD
  have hFc : ∀ q, va_A (w0 x) H.size q → A q := free_all hDc hS hA
  refine va_calli (va_runV (C := Cn) (As := As) (rest := st) ⟨hx, hb, hml.trans hn, hown, hts⟩ (hM H.size) ⟨cwb_of hts hcw hrc hrs hrf hrl, hts _ hin, hts _ hse⟩ ⟨Pw_blind, va_recv hK hPc hc he, fun U hU hW => ⟨rfl, by rw [hU], by rw [hU]; exact hPc, va_K.moved hW.alike hK, hDc.weaken (fun _ _ _ _ => trivial), NW.warm hW hNW⟩⟩ rfl hna (hL.1.trans hn) rfl (lv_room hsum) d ⟨hk, hn1⟩) hS (fun q _ h => hFc q h) hFc (fun r u t H1 locs1 ht hvm hw hB hz1 hk1 hS => ?_)
  obtain ⟨hP1, hK1, hD1⟩ := hB
  rw [ht] at hP1
  obtain ⟨j1, j2⟩ := join_app hP hD hk1 hFc hP1 hD1
  exact kk r u hw H1 locs1 ls j1 j2 hS hL
theorem Y_callVl {l0 : Launch} {Z : EC} {Γ : CTY} {wr : va_W} {k n : Nat} {cc : ByteArray} {own : String} {rm : Room} {n0 pc : Nat} {L : List (Option Value)} {st st0 : List Value} {idx : Nat} {y : MethodName} {cb : ByteArray} {mL na : Nat} {rm2 : Room} {As : List Value} {X : Type} {w0 : X → va_W} {x : X} (C : CY l0 Z Γ cc own rm n0) {post : Int64 → X → Prop} {b q0 ci N : Nat} {Cn : String} {T : u_T} {fs : List Value} (hM : MIl l0 Z w0 y cb mL rm2 (.ref b :: As) x post) (hcw : CWB own idx y cb mL (some .long) na) (hin : Cond.instanceMethod y ∈ wsL_law) (hse : Cond.selects Cn y y ∈ wsL_law) (he : (w0 x)[q0]? = some (b, .inr (ci, fs))) (hc : vwCl[ci]? = some (Cn, T, N)) (hst : st0 = As.reverse ++ .ref b :: st) (hna : As.length = na) (hsum : (st.map fun v => v.category).sum ≤ 8) (hrc : rm2.cells = 0) (hrs : rm2.slots = 0) (hrf : rm2.frames + 1 ≤ rm.frames) (hrl : 8 + (mL + 11) + rm2.locals ≤ rm.locals) (hk : k ≤ rm.cells) (hn1 : n ≤ rm.slots) (d : decode cc pc = .ok (.invokevirtual idx, 3)) (kk : ∀ (r : Int64) (x1 : X), post r x1 → YJ Γ (wr ++ w0 x1) k n (pc + 3) L (.long r :: st)) : YJ Γ (wr ++ w0 x) k n pc L st0 := by
  obtain ⟨p, l, e, R, s, m, args, below, meth, c, Q, A, H0, nL, D⟩ := Γ
  obtain ⟨hx, hb, hml, hn, hown, hts, hK, hA, hR, hl0, hD0, hNW, hAO, hAA⟩ := C
  subst hD0
  subst hR
  subst hl0
  subst hst
  intro H locs ls hP hD hS hL
  have hPc := app_r hP
  have hDc := appD_r hD
  have hFc : ∀ q, va_A (w0 x) H.size q → A q := free_all hDc hS hA
  refine va_calll (va_runV (C := Cn) (As := As) (rest := st) ⟨hx, hb, hml.trans hn, hown, hts⟩ (hM H.size) ⟨cwb_of hts hcw hrc hrs hrf hrl, hts _ hin, hts _ hse⟩ ⟨Pw_blind, va_recv hK hPc hc he, fun U hU hW => ⟨rfl, by rw [hU], by rw [hU]; exact hPc, va_K.moved hW.alike hK, hDc.weaken (fun _ _ _ _ => trivial), NW.warm hW hNW⟩⟩ rfl hna (hL.1.trans hn) rfl (lv_room hsum) d ⟨hk, hn1⟩) hS (fun q _ h => hFc q h) hFc (fun r u t H1 locs1 ht hvm hw hB hz1 hk1 hS => ?_)
  obtain ⟨hP1, hK1, hD1⟩ := hB
  rw [ht] at hP1
  obtain ⟨j1, j2⟩ := join_app hP hD hk1 hFc hP1 hD1
  exact kk r u hw H1 locs1 ls j1 j2 hS hL
theorem Y_sw {Γ : CTY} {a b : va_W} {k n pc : Nat} {L : List (Option Value)} {st : List Value} (kk : YJ Γ (b ++ a) k n pc L st) : YJ Γ (a ++ b) k n pc L st := by
  obtain ⟨p, l, e, R, s, m, args, below, meth, c, Q, A, H0, nL, D⟩ := Γ
  exact fun H locs ls hP hD hS hL => kk H locs ls (app_sw hP) (appD_sw hD) hS hL
/-- the law's script -/
def XY (Γ : CTY) (b Ln : Nat) (xs : Nat → Int32) : Prop := match Γ with
  | (p, l, e, R, s, m, args, below, meth, c, Q, A, H0, nL, D) => va_X b Ln xs s H0 ∧ b < H0.size ∧ ¬ A b
theorem Y_sld {l0 : Launch} {Z : EC} {Γ : CTY} {ws : va_W} {k n : Nat} {cc : ByteArray} {own : String} {rm : Room} {n0 pc : Nat} {L : List (Option Value)} {st : List Value} {b Ln : Nat} {xs : Nat → Int32} (C : CY l0 Z Γ cc own rm n0) (X : XY Γ b Ln xs) {j : Nat} {v : Int32} (hj : j < Ln) (hLn : Ln ≤ 1000) (hv : xs j = v) (d : decode cc pc = .ok (.iaload, 1)) (kk : YJ Γ ws k n (pc + 1) L (.int v :: st)) : YJ Γ ws k n pc L (.int (nI j) :: .ref b :: st) := by
  obtain ⟨p, l, e, R, s, m, args, below, meth, c, Q, A, H0, nL, D⟩ := Γ
  obtain ⟨hx, hb, hml, hn, hown, hts, hK, hA, hR, hl0, hD0, hNW, hAO, hAA⟩ := C
  obtain ⟨hX, hbl, hbA⟩ := X
  subst hv
  have e2 : (nI j).toNatClampNeg = j := nI_clamp (by omega)
  exact fun H locs ls hP hD hS hL => va_sld hx hb hX hbl hbA hS (vp_in_nI hj (by omega)) d (by rw [e2]; exact kk H locs ls hP hD hS hL)
theorem Y_slen {l0 : Launch} {Z : EC} {Γ : CTY} {ws : va_W} {k n : Nat} {cc : ByteArray} {own : String} {rm : Room} {n0 pc : Nat} {L : List (Option Value)} {st : List Value} {b Ln : Nat} {xs : Nat → Int32} (C : CY l0 Z Γ cc own rm n0) (X : XY Γ b Ln xs) (d : decode cc pc = .ok (.arraylength, 1)) (kk : YJ Γ ws k n (pc + 1) L (.int (nI Ln) :: st)) : YJ Γ ws k n pc L (.ref b :: st) := by
  obtain ⟨p, l, e, R, s, m, args, below, meth, c, Q, A, H0, nL, D⟩ := Γ
  obtain ⟨hx, hb, hml, hn, hown, hts, hK, hA, hR, hl0, hD0, hNW, hAO, hAA⟩ := C
  obtain ⟨hX, hbl, hbA⟩ := X
  exact fun H locs ls hP hD hS hL => va_slen hx hb hX hbl hbA hS d (kk H locs ls hP hD hS hL)
