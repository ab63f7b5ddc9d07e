abbrev hasB (sz : Nat) (i n : Int32) : Prop := 0 ≤ i.toInt ∧ i.toInt ≤ (sz : Int) ∧ 0 ≤ n.toInt ∧ n.toInt ≤ (sz : Int) - i.toInt
theorem has1 {sz : Nat} {i : Int32} (h : hasB sz i (nI 1)) : 0 ≤ i.toInt ∧ i.toInt ≤ (sz : Int) - 1 := by
  obtain ⟨h1, h2, h3, h4⟩ := h
  rw [nI_i (by omega)] at h4
  omega
theorem has1r {sz : Nat} {i : Int32} (h : 0 ≤ i.toInt ∧ i.toInt ≤ (sz : Int) - 1) : hasB sz i (nI 1) := by
  refine ⟨h.1, by omega, ?_, ?_⟩ <;> (rw [nI_i (by omega)]; omega)
theorem le60 {n : Int32} (h : n ≤ nI 60) : ¬ 60 < n.toInt := by rw [le_i, nI_i (by omega)] at h; omega
theorem gt60 {n : Int32} (h : ¬ n ≤ nI 60) : 60 < n.toInt := by rw [le_i, nI_i (by omega)] at h; omega
theorem rowF0 {H : (Nat → Nat) × (Nat → Nat) × (Nat → Nat → Int32)} {k : Nat} {l i n : Int32} (h : rowF H k l i n = 0) : H.1 k ≠ 0 ∧ 0 ≤ n.toInt ∧ 0 ≤ i.toInt ∧ i.toInt ≤ (H.2.1 k : Int) ∧ n.toInt ≤ (H.2.1 k : Int) - i.toInt := by
  unfold rowF at h
  by_cases h1 : H.1 k = 0
  · rw [if_pos h1] at h; omega
  · rw [if_neg h1] at h
    by_cases h2 : nI (H.1 k - 1) = l
    · rw [if_pos h2] at h
      by_cases h3 : n.toInt < 0
      · rw [if_pos h3] at h; omega
      · rw [if_neg h3] at h
        by_cases h4 : 0 ≤ i.toInt ∧ i.toInt ≤ (H.2.1 k : Int) ∧ n.toInt ≤ (H.2.1 k : Int) - i.toInt
        · exact ⟨h1, by omega, h4.1, h4.2.1, h4.2.2⟩
        · rw [if_neg h4] at h; omega
    · rw [if_neg h2] at h; omega
theorem rowF_le (H : (Nat → Nat) × (Nat → Nat) × (Nat → Nat → Int32)) (k : Nat) (l i n : Int32) : rowF H k l i n ≤ 4 := by
  unfold rowF
  split
  · omega
  · split
    · split
      · omega
      · split <;> omega
    · omega
abbrev okC (f : Nat → Int32) (i n t : Nat) : Prop := ∀ j, j < n → 0 ≤ (f (i + j)).toInt ∧ (f (i + j)).toInt ≤ (t : Int)
theorem okC_nI {f : Nat → Int32} {i n t : Nat} (h : okC f i n t) {j : Nat} (hj : j < n) (ht : t < 1000) : f (i + j) = nI (tn (f (i + j))) ∧ tn (f (i + j)) ≤ t := by
  obtain ⟨h1, h2⟩ := h j hj
  obtain ⟨m, m1, m2, m3⟩ := rng_nat2 (A := 0) (B := t) ⟨h1, h2⟩
  rw [m3, tn_nI (by omega)]
  exact ⟨rfl, m2⟩
section JCP
variable {l0 : Launch} {Z : EC} {Γ : CTX St} {x : St} {cc : ByteArray} {own : String} {rm : Room} {n pc : Nat} {L : List (Option Value)} {st : List Value}
theorem J_copy (C : CJ l0 Z (wC Z) Γ cc own rm n) {idx k o i j m : Nat} (hk : k < 4) (ho : o < 4) (h4 : i + m ≤ 60) (h5 : j + m ≤ 60) (hl : Cond.methodLink own idx arraycopyName ∈ wsL_law) (h1 : Cond.native arraycopyName ∈ wsL_law) (h2 : Cond.static arraycopyName ∈ wsL_law) (h3 : Cond.initialized "java/lang/System" ∈ wsL_law) (hf : 1 ≤ rm.frames) (hlo : (st.map fun v => v.category).sum + (nativeFrameWords "java/lang/System" "arraycopy" 5 + 11) ≤ rm.locals) (d : decode cc pc = .ok (.invokestatic idx, 3)) (k1 : J Γ (setA x (6 + o) (va_cpy (x.2.1 (6 + k)) (x.2.1 (6 + o)) i j m)) (pc + 3) L st) : J Γ x pc L (.int (nI m) :: .int (nI j) :: .ref (Z.2.1 (6 + o)) :: .int (nI i) :: .ref (Z.2.1 (6 + k)) :: st) := by
  obtain ⟨p, l, e, R, s, m0, args, below, meth, c, Q, A, H0, nL, D, tys, w⟩ := Γ
  obtain ⟨hx, hb, hml, hn, hown, hts, hK, hA, hR, hl0, hD0, hty, hw, hNW⟩ := C
  subst hw
  subst hty
  subst hD0
  subst hR
  intro H locs ls hP hD hS hL
  have ei : (nI i).toNatClampNeg = i := nI_clamp (by omega)
  have ej : (nI j).toNatClampNeg = j := nI_clamp (by omega)
  have em : (nI m).toNatClampNeg = m := nI_clamp (by omega)
  refine va_copyi hx hb (hml.trans hL.1.symm) hown (hts _ hl) (hts _ h1) (hts _ h2) (hts _ h3) hK hP hD hS (6 + k) (6 + o) 0 0 (at_cells hk) (at_cells ho) rfl rfl rfl (nI_lt0 (by omega)) (nI_lt0 (by omega)) (nI_lt0 (by omega)) (by rw [ei, em]; exact h4) (by rw [ej, em]; exact h5) (fun _ _ => rfl) hf hlo d (fun H1 locs1 hP1 hD1 hS1 => ?_)
  rw [ei, ej, em, sa_cells Z x ho] at hP1 hD1
  exact k1 H1 locs1 ls hP1 hD1 hS1 hL
end JCP
theorem absC_copy {x : St} {A : AB} {k i o j n : Nat} (h : AbsC x A) (hk : k < 4) (ho : o < 4) (hn : A.2.1.1 k ≠ 0) (hi : i + n ≤ A.2.1.2.1 k) (hj : j + n ≤ A.2.1.2.1 o) : AbsC (setA x (6 + o) (va_cpy (x.2.1 (6 + k)) (x.2.1 (6 + o)) i j n)) (AsH A (cpyF A.2.1 k i o j n)) := by
  obtain ⟨⟨c1, c2, c3, c4⟩, h2, h3, h4, h5⟩ := h
  obtain ⟨-, p2⟩ := h2 k hk
  obtain ⟨-, -, p5⟩ := p2 hn
  refine ⟨⟨c1, c2, c3, c4.arr (by omega)⟩, fun u hu => ?_, h3.arr (by omega), h4, h5⟩
  obtain ⟨g1, g2⟩ := h2 u hu
  refine ⟨g1, fun hn => ?_⟩
  obtain ⟨q1, q2, q3⟩ := g2 hn
  refine ⟨q1, q2, fun p hp => ?_⟩
  show va_up x.2.1 _ _ (6 + u) p = (if u = o ∧ j ≤ p ∧ p < j + n then A.2.1.2.2 k (i + (p - j)) else A.2.1.2.2 u p)
  by_cases e : u = o
  · subst e
    rw [vup_eq]
    by_cases e2 : j ≤ p ∧ p < j + n
    · rw [pk_cpy_in e2.1 e2.2, if_pos ⟨rfl, e2⟩]; exact p5 _ (by omega)
    · rw [pk_cpy_out (by omega), if_neg (fun q => e2 q.2)]; exact q3 p hp
  · rw [vup_ne (by omega), if_neg (fun q => e q.1)]; exact q3 p hp
-- years
def fwr (a : SA) (g : Nat → Nat) : Nat → Nat
  | 0 => 0
  | n + 1 => if fwr a g n < n then fwr a g n else if wet a (g n) = 0 then n else n + 1
def yr (a : SA) (g : Nat → Nat) : Nat → SA
  | 0 => a
  | n + 1 => tided (yr a g n) (g n)
def mvs (a : SA) (g : Nat → Nat) : Nat → Nat
  | 0 => 0
  | n + 1 => mvs a g n + mvd (yr a g n) (g n)
def wrT (a : SA) (g : Nat → Nat) (n : Nat) : Int32 := if fwr a g n < n then nI (fwr a g n) else (-9)
def endT (b : SA) (w : Int32) : Int32 := if w = nI 2 then nI (satIn b) else if w = nI 3 then nI (full b (b.1 3)) else if 20 ≤ w.toInt then b2i (isLaw b (fri b (tn w - 20))) else if tn w - 10 < b.1 4 then nI (b.2 3 (tn w - 10)) else (-9)
def yearT (a : SA) (g : Nat → Nat) (n : Nat) (w : Int32) : Int32 := if w = nI 1 then wrT a g n else if fwr a g n < n then (-100) - nI (fwr a g n) else if w = nI 0 then nI (mvs a g n) else endT (yr a g n) w
def R_year (A : AB) (k l i n w : Int32) : Int32 := if hB k then if lB l then if inB n 0 20 then if yB w then if rowF A.2.1 (tn k) l i n = 0 then if A.1.1 3 = 0 then (-3) else if okC (A.2.1.2.2 (tn k)) (tn i) (tn n) 9 then yearT A.1 (fun j => tn (A.2.1.2.2 (tn k) (tn i + j))) (tn n) w else (-2) else (-10) - nI (rowF A.2.1 (tn k) l i n) else (-2) else (-2) else (-2) else (-1)
def N_year (A : AB) (k l i n w : Int32) : AB := if hB k then if lB l then if inB n 0 20 then if yB w then AsF A (nI (rowF A.2.1 (tn k) l i n)) else AsF A 0 else AsF A 0 else AsF A 0 else AsF A 0
def drF (a : SA) (g : Nat → Nat) (v : Nat) : Nat → Nat
  | 0 => v
  | n + 1 => dri a (g n) (drF a g v n)
def R_drift (A : AB) (k l i n v w : Int32) : Int32 := if hB k then if lB l then if inB n 0 20 then if dB v then if inB w 0 1 then if rowF A.2.1 (tn k) l i n = 0 then if A.1.1 3 = 0 then (-3) else if okC (A.2.1.2.2 (tn k)) (tn i) (tn n) (A.1.1 3 - 1) then if w = nI 0 then nI (drF A.1 (fun j => tn (A.2.1.2.2 (tn k) (tn i + j))) (tn v) (tn n)) else nI (bits (fun b => decide (drF A.1 (fun j => tn (A.2.1.2.2 (tn k) (tn i + j))) b (tn n) = tn v)) 10) else (-1) else (-10) - nI (rowF A.2.1 (tn k) l i n) else (-2) else (-2) else (-2) else (-2) else (-1)
def N_drift (A : AB) (k l i n v w : Int32) : AB := if hB k then if lB l then if inB n 0 20 then if dB v then if inB w 0 1 then AsF A (nI (rowF A.2.1 (tn k) l i n)) else AsF A 0 else AsF A 0 else AsF A 0 else AsF A 0 else AsF A 0
theorem yr_ok {a : SA} (ok : SOK a) (g : Nat → Nat) : ∀ n, SOK (yr a g n)
  | 0 => ok
  | n + 1 => tided_ok (yr_ok ok g n) (g n)
theorem yr_1 (a : SA) (g : Nat → Nat) : ∀ n, (yr a g n).1 = a.1
  | 0 => rfl
  | n + 1 => yr_1 a g n
theorem yr_h (a : SA) (g : Nat → Nat) : ∀ n, (yr a g n).2 0 = a.2 0
  | 0 => rfl
  | n + 1 => yr_h a g n
theorem fwr_le (a : SA) (g : Nat → Nat) : ∀ n, fwr a g n ≤ n
  | 0 => Nat.le_refl 0
  | n + 1 => by
    have h := fwr_le a g n
    unfold fwr
    split
    · omega
    · split <;> omega
theorem fwr_stop {a : SA} {g : Nat → Nat} {i : Nat} (h0 : ¬ fwr a g i < i) (h : wet a (g i) = 0) : ∀ {n : Nat}, i < n → fwr a g n = i
  | 0, h2 => absurd h2 (Nat.not_lt_zero i)
  | n + 1, h2 => by
    show (if fwr a g n < n then fwr a g n else if wet a (g n) = 0 then n else n + 1) = i
    by_cases e : i = n
    · subst e; rw [if_neg h0, if_pos h]
    · rw [fwr_stop h0 h (show i < n by omega), if_pos (by omega)]
theorem fwr_go {a : SA} {g : Nat → Nat} {i : Nat} (h0 : ¬ fwr a g i < i) (h : ¬ wet a (g i) = 0) : ¬ fwr a g (i + 1) < i + 1 := by
  show ¬ (if fwr a g i < i then fwr a g i else if wet a (g i) = 0 then i else i + 1) < i + 1
  rw [if_neg h0, if_neg h]; omega
theorem mvd_le {a : SA} (ok : SOK a) (h : Nat) : mvd a h ≤ 6 := Nat.le_trans (cnt_le _ _) ok.2.2.2.2.1
theorem mvs_le {a : SA} (ok : SOK a) (g : Nat → Nat) : ∀ n, mvs a g n ≤ 6 * n
  | 0 => Nat.le_refl 0
  | n + 1 => by
    have h1 := mvs_le ok g n
    have h2 := mvd_le (yr_ok ok g n) (g n)
    show mvs a g n + mvd (yr a g n) (g n) ≤ _
    omega
theorem dsum_le {a : SA} (ok : SOK a) (q : Nat) : ∀ n, n ≤ a.1 4 → dsum a q n ≤ 9 * cnt (fun m => a.2 3 m == q) n
  | 0, _ => Nat.le_refl 0
  | n + 1, hn => by
    have h := dsum_le ok q n (by omega)
    have hv := (ok.2.2.2.2.2.2.1 n (by omega)).2.2
    by_cases e : a.2 3 n = q
    · rw [dsum_yes e, cnt_yes (by simpa using e)]; omega
    · rw [dsum_no e, cnt_no (by simpa using e)]; exact h
theorem pop_bits (p : Nat → Bool) : ∀ n, n ≤ 6 → pop (bits p n) = cnt p n := by
  intro n hn
  have hn2 : n = 0 ∨ n = 1 ∨ n = 2 ∨ n = 3 ∨ n = 4 ∨ n = 5 ∨ n = 6 := by omega
  rcases hn2 with rfl | rfl | rfl | rfl | rfl | rfl | rfl <;> simp only [bits, cnt, pop] <;> cases p 0 <;> cases p 1 <;> cases p 2 <;> cases p 3 <;> cases p 4 <;> cases p 5 <;> rfl
theorem dri_le {a : SA} (ok : SOK a) {q b : Nat} (hb : b ≤ 9) : dri a q b ≤ 9 := by
  have h := dsum_le ok q (a.1 4) (Nat.le_refl _)
  have hp := pop_bits (fun m => a.2 3 m == q) (a.1 4) ok.2.2.2.2.1
  show (b + dsum a q (a.1 4)) / (pop (sit a q) + 1) ≤ 9
  have e : pop (sit a q) = cnt (fun m => a.2 3 m == q) (a.1 4) := hp
  rw [e]
  refine Nat.le_of_lt_succ ((Nat.div_lt_iff_lt_mul (Nat.succ_pos _)).mpr ?_)
  show b + dsum a q (a.1 4) < 10 * (cnt (fun m => a.2 3 m == q) (a.1 4) + 1)
  omega
theorem drF_le {a : SA} (ok : SOK a) (g : Nat → Nat) {v : Nat} (hv : v ≤ 9) : ∀ n, drF a g v n ≤ 9
  | 0 => hv
  | n + 1 => dri_le ok (drF_le ok g hv n)
theorem rf_ne {f : Nat} (h : f ≤ 4) : ¬ ((-10) - nI f = 0) := by
  have h2 : f = 0 ∨ f = 1 ∨ f = 2 ∨ f = 3 ∨ f = 4 := by omega
  rcases h2 with rfl | rfl | rfl | rfl | rfl <;> decide
theorem lt20 {w : Int32} (h : w < nI 20) : ¬ 20 ≤ w.toInt := by rw [lt_i, nI_i (by omega)] at h; omega
theorem ge20 {w : Int32} (h : ¬ w < nI 20) : 20 ≤ w.toInt := by rw [lt_i, nI_i (by omega)] at h; omega
theorem w1015 {w : Int32} (hw : yB w) (h0 : ¬ w = nI 0) (h1 : ¬ w = nI 1) (h2 : ¬ w = nI 2) (h3 : ¬ w = nI 3) (h20 : ¬ 20 ≤ w.toInt) : (10 : Int) ≤ w.toInt ∧ w.toInt ≤ 15 := by
  rcases hw with h | h | h
  · exfalso
    obtain ⟨n, n0, n3, rfl⟩ := rng_nat2 (A := 0) (B := 3) h
    have h4 : n = 0 ∨ n = 1 ∨ n = 2 ∨ n = 3 := by omega
    rcases h4 with rfl | rfl | rfl | rfl
    · exact h0 rfl
    · exact h1 rfl
    · exact h2 rfl
    · exact h3 rfl
  · exact h
  · omega
theorem wrT_ne {a : SA} {g : Nat → Nat} {n : Nat} (h : ¬ wrT a g n = (-9)) : fwr a g n < n ∧ wrT a g n = nI (fwr a g n) := by
  unfold wrT at h ⊢
  by_cases e : fwr a g n < n
  · exact ⟨e, if_pos e⟩
  · rw [if_neg e] at h; exact absurd rfl h
theorem wrT_eq {a : SA} {g : Nat → Nat} {n : Nat} (h : wrT a g n = (-9)) (hn : n ≤ 100) : ¬ fwr a g n < n := by
  intro e
  rw [wrT, if_pos e] at h
  have h3 := congrArg Int32.toInt h
  rw [nI_i (by omega)] at h3
  have : ((-9 : Int32)).toInt = -9 := by decide
  omega

def rm_X3_has : Room := ({ frames := 1, cells := 0, slots := 0, locals := 22 })
set_option maxRecDepth 20000 in
theorem c_X3_has (l : Launch) (Z : EC) (x : St) {k : Nat} (hk : k < 4) {sz : Nat} (hsz : x.1 (4 + 3 * k) = nI sz) (h60 : sz ≤ 60) (i n : Int32) : MIz l Z (wC Z) yX3_has cX3_has 3 rm_X3_has [.ref (Z.2.1 (2 + k)), .int i, .int n] x (fun b x1 => b = decide (hasB sz i n) ∧ x = x1) := by
  refine MIz_of (own := RX3) (L0 := [some (.ref (Z.2.1 (2 + k))), some (.int i), some (.int n)]) (by decide) rfl (Nat.le_of_ble_eq_true rfl) ⟨rfl, rfl, rfl, trivial⟩ ?_
  intro Γ C E
  refine J_iload_n C dX3_has_0 rfl rfl ?_
  refine J_iconst C (v := nI 0) dX3_has_1 (by decide) ?_
  refine J_aload_n C dX3_has_2 rfl rfl ?_
  refine G3_size hk C wd_5_13 dX3_has_3 ?_
  rw [show x.1 (4 + 3 * k) = nI sz from hsz]
  refine J_callNz C (As := [.int i, .int (nI 0), .int (nI sz)]) (c_X5_isWithin l Z _ _ _ _ (0) (sz : Int) (by decide) (nI_i (by omega))) cw_RX3_26 wd_4_23 rfl rfl (Nat.le_of_ble_eq_true rfl) rfl rfl (Nat.le_of_ble_eq_true rfl) (Nat.le_of_ble_eq_true rfl) dX3_has_6 (fun b6 x6 hp6 => ?_)
  obtain ⟨rfl, rfl⟩ := hp6
  refine J_if_eq_d C (tgt := 30) dX3_has_9 (by decide) (fun c9 => ?_) (fun c9 => ?_)
  · skip
    refine J_iconst C (v := nI 0) dX3_has_30 (by decide) ?_
    exact E (b := false) dX3_has_31 (⟨(decide_eq_false (fun h => c9 ⟨h.1, h.2.1⟩)).symm, rfl⟩)
  · skip
    obtain ⟨im, i0, i9, rfl⟩ := rng_nat2 (A := 0) (B := sz) c9
    have eim := nI_i (n := im) (by omega)
    refine J_iload_n C dX3_has_12 rfl rfl ?_
    refine J_iconst C (v := nI 0) dX3_has_13 (by decide) ?_
    refine J_aload_n C dX3_has_14 rfl rfl ?_
    refine G3_size hk C wd_5_13 dX3_has_15 ?_
    rw [show x.1 (4 + 3 * k) = nI sz from hsz]
    refine J_iload_n C dX3_has_18 rfl rfl ?_
    refine J_isub C (v := nI (sz - im)) dX3_has_19 (pk_sub (a := sz) (b := im) (by omega)) ?_
    refine J_callNz C (As := [.int n, .int (nI 0), .int (nI (sz - im))]) (c_X5_isWithin l Z _ _ _ _ (0) ((sz - im : Nat) : Int) (by decide) (nI_i (by omega))) cw_RX3_26 wd_4_23 rfl rfl (Nat.le_of_ble_eq_true rfl) rfl rfl (Nat.le_of_ble_eq_true rfl) (Nat.le_of_ble_eq_true rfl) dX3_has_20 (fun b20 x20 hp20 => ?_)
    obtain ⟨rfl, rfl⟩ := hp20
    refine J_if_eq_d C (tgt := 30) dX3_has_23 (by decide) (fun c23 => ?_) (fun c23 => ?_)
    · skip
      refine J_iconst C (v := nI 0) dX3_has_30 (by decide) ?_
      exact E (b := false) dX3_has_31 (⟨(decide_eq_false (fun h => c23 (by unfold hasB at h; rw [eim] at h; omega))).symm, rfl⟩)
    · skip
      refine J_iconst C (v := nI 1) dX3_has_26 (by decide) ?_
      refine J_goto (tgt := 31) C dX3_has_27 (by decide) ?_
      exact E (b := true) dX3_has_31 (⟨(decide_eq_true (by unfold hasB; rw [eim]; omega)).symm, rfl⟩)
def rm_X5_rowFault : Room := ({ frames := 2, cells := 0, slots := 0, locals := 44 })
set_option maxRecDepth 20000 in
theorem c_X5_rowFault (l : Launch) (Z : EC) (x : St) {k : Nat} (hk : k < 4) (H : (Nat → Nat) × (Nat → Nat) × (Nat → Nat → Int32)) (hH : CH x H) (h60 : H.2.1 k ≤ 60) (lane i n : Int32) : MIi l Z (wC Z) yX5_rowFault cX5_rowFault 4 rm_X5_rowFault [.ref (Z.2.1 (2 + k)), .int lane, .int i, .int n] x (fun r x1 => r = nI (rowF H k lane i n) ∧ x = x1) := by
  refine MIi_of (own := RX5) (L0 := [some (.ref (Z.2.1 (2 + k))), some (.int lane), some (.int i), some (.int n)]) (by decide) rfl (Nat.le_of_ble_eq_true rfl) ⟨rfl, rfl, rfl, rfl, trivial⟩ ?_
  intro Γ C E
  refine J_aload_n C dX5_rowFault_0 rfl rfl ?_
  refine G3_isThere hk C wd_5_7 dX5_rowFault_1 ?_
  rw [show x.1 (2 + 3 * k) = b2i (decide (H.1 k ≠ 0)) from (hH k hk).1]
  refine J_if_eq_d C (tgt := 17) dX5_rowFault_4 (by decide) (fun c4 => ?_) (fun c4 => ?_)
  · skip
    refine J_aload_n C dX5_rowFault_17 rfl rfl ?_
    refine G3_isThere hk C wd_5_7 dX5_rowFault_18 ?_
    rw [show x.1 (2 + 3 * k) = b2i (decide (H.1 k ≠ 0)) from (hH k hk).1]
    refine J_if_ne_d C (tgt := 26) dX5_rowFault_21 (by decide) (fun c21 => absurd c21 c4) (fun c21 => ?_)
    refine J_iconst C (v := nI 1) dX5_rowFault_24 (by decide) ?_
    exact E dX5_rowFault_25 (⟨by rw [rowF, if_pos (nn0 c21)], rfl⟩)
  · skip
    refine J_aload_n C dX5_rowFault_7 rfl rfl ?_
    refine G3_lane hk C wd_5_8 dX5_rowFault_8 ?_
    rw [show x.1 (3 + 3 * k) = nI (H.1 k - 1) from ((hH k hk).2 c4).1]
    refine J_iload_n C dX5_rowFault_11 rfl rfl ?_
    refine J_icmp_eq C (tgt := 17) dX5_rowFault_12 (by decide) (fun c12 => ?_) (fun c12 => ?_)
    · skip
      refine J_aload_n C dX5_rowFault_17 rfl rfl ?_
      refine G3_isThere hk C wd_5_7 dX5_rowFault_18 ?_
      rw [show x.1 (2 + 3 * k) = b2i (decide (H.1 k ≠ 0)) from (hH k hk).1]
      refine J_if_ne_d C (tgt := 26) dX5_rowFault_21 (by decide) (fun c21 => ?_) (fun c21 => absurd c4 c21)
      refine J_iload_n C dX5_rowFault_26 rfl rfl ?_
      refine J_if_ge C (tgt := 32) dX5_rowFault_27 (by decide) (fun c27 => ?_) (fun c27 => ?_)
      · skip
        refine J_aload_n C dX5_rowFault_32 rfl rfl ?_
        refine J_iload_n C dX5_rowFault_33 rfl rfl ?_
        refine J_iload_n C dX5_rowFault_34 rfl rfl ?_
        refine J_callVz C (N := 4) (As := [.int i, .int n]) (c_X3_has l Z _ hk ((hH k hk).2 c21).2.1 h60 _ _) cw_RX5_273 wd_5_10 wd_5_11 (at_sheet hk) rfl rfl rfl (Nat.le_of_ble_eq_true rfl) rfl rfl (Nat.le_of_ble_eq_true rfl) (Nat.le_of_ble_eq_true rfl) dX5_rowFault_35 (fun b35 x35 hp35 => ?_)
        obtain ⟨rfl, rfl⟩ := hp35
        refine J_if_eq_d C (tgt := 45) dX5_rowFault_38 (by decide) (fun c38 => ?_) (fun c38 => ?_)
        · skip
          refine J_iconst C (v := nI 3) dX5_rowFault_45 (by decide) ?_
          exact E dX5_rowFault_46 (⟨by rw [rowF, if_neg c4, if_pos c12, if_neg (ge0_i c27), if_neg (fun h => c38 ⟨h.1, h.2.1, (by have := ge0_i c27; omega), h.2.2⟩)], rfl⟩)
        · skip
          refine J_iconst C (v := nI 0) dX5_rowFault_41 (by decide) ?_
          refine J_goto (tgt := 46) C dX5_rowFault_42 (by decide) ?_
          exact E dX5_rowFault_46 (⟨by rw [rowF, if_neg c4, if_pos c12, if_neg (ge0_i c27), if_pos ⟨c38.1, c38.2.1, c38.2.2.2⟩], rfl⟩)
      · skip
        refine J_iconst C (v := nI 4) dX5_rowFault_30 (by decide) ?_
        exact E dX5_rowFault_31 (⟨by rw [rowF, if_neg c4, if_pos c12, if_pos (lt0_i c27)], rfl⟩)
    · skip
      refine J_iconst C (v := nI 2) dX5_rowFault_15 (by decide) ?_
      exact E dX5_rowFault_16 (⟨by rw [rowF, if_neg c4, if_neg c12], rfl⟩)
def rm_X3_renew : Room := ({ frames := 0, cells := 0, slots := 0, locals := 0 })
set_option maxRecDepth 20000 in
theorem c_X3_renew (l : Launch) (Z : EC) (x : St) (A : AB) (hA : AbsC x A) (hk : AOK A) (k ln nn : Nat) (hk4 : k < 4) (hnn : nn ≤ 60) : MIv l Z (wC Z) yX3_renew cX3_renew 4 rm_X3_renew [.ref (Z.2.1 (2 + k)), .int (nI ln), .int (nI nn)] x (fun x1 => AbsC x1 (AsH A (up1 A.2.1.1 k (ln + 1), up1 A.2.1.2.1 k nn, fun u j => if u = k then 0 else A.2.1.2.2 u j))) := by
  obtain ⟨⟨hcur, htr, hne, hr⟩, hH, hR, hT, hF⟩ := id hA
  obtain ⟨ok, hkH, hkR, hkr⟩ := id hk
  obtain ⟨ok0, ok1, ok2, ok3, ok4, ok5, ok6, ok7⟩ := id ok
  refine MIv_of (own := RX3) (L0 := [some (.ref (Z.2.1 (2 + k))), some (.int (nI ln)), some (.int (nI nn)), none]) (by decide) rfl (Nat.le_of_ble_eq_true rfl) ⟨rfl, rfl, rfl, trivial⟩ ?_
  intro Γ C E
  refine J_aload_n C dX3_renew_0 rfl rfl ?_
  refine J_iconst C (v := b2i true) dX3_renew_1 (rfl) ?_
  refine P3_isThere hk4 C wd_32_11 dX3_renew_2 ?_
  refine J_aload_n C dX3_renew_5 rfl rfl ?_
  refine J_iload_n C dX3_renew_6 rfl rfl ?_
  refine P3_lane hk4 C wd_32_12 dX3_renew_7 ?_
  refine J_aload_n C dX3_renew_10 rfl rfl ?_
  refine J_iload_n C dX3_renew_11 rfl rfl ?_
  refine P3_size hk4 C wd_5_13 dX3_renew_12 ?_
  have e1 : ((setI (setI (setI x (2 + 3 * k) (b2i true)) (3 + 3 * k) (nI ln)) (4 + 3 * k) (nI nn))).1 (2 + 3 * k) = b2i true := by rw [sI_ne (by omega), sI_ne (by omega), sI_eq]
  have e2 : ((setI (setI (setI x (2 + 3 * k) (b2i true)) (3 + 3 * k) (nI ln)) (4 + 3 * k) (nI nn))).1 (3 + 3 * k) = nI ln := by rw [sI_ne (by omega), sI_eq]
  have e3 : ((setI (setI (setI x (2 + 3 * k) (b2i true)) (3 + 3 * k) (nI ln)) (4 + 3 * k) (nI nn))).1 (4 + 3 * k) = nI nn := sI_eq
  have e4 : ∀ i, i ≠ 2 + 3 * k → i ≠ 3 + 3 * k → i ≠ 4 + 3 * k → ((setI (setI (setI x (2 + 3 * k) (b2i true)) (3 + 3 * k) (nI ln)) (4 + 3 * k) (nI nn))).1 i = x.1 i := fun i h1 h2 h3 => by rw [sI_ne h3, sI_ne h2, sI_ne h1]
  have e5 : ((setI (setI (setI x (2 + 3 * k) (b2i true)) (3 + 3 * k) (nI ln)) (4 + 3 * k) (nI nn))).2 = x.2 := rfl
  generalize setI (setI (setI x (2 + 3 * k) (b2i true)) (3 + 3 * k) (nI ln)) (4 + 3 * k) (nI nn) = x0 at e1 e2 e3 e4 e5 ⊢
  refine J_iconst C (v := nI 0) dX3_renew_15 (by decide) ?_
  refine J_istore_n C (L' := [some (.ref (Z.2.1 (2 + k))), some (.int (nI ln)), some (.int (nI nn)), some (.int (nI 0))]) dX3_renew_16 rfl (by decide) rfl rfl ?_
  have lp17 : ∀ (f : Nat) (i : Nat) (y : St), (i ≤ 60) → (y.1 = x0.1) → (y.2.2 = x0.2.2) → (∀ a, a ≠ 6 + k → y.2.1 a = x0.2.1 a) → (∀ j, j < i → y.2.1 (6 + k) j = 0) → (60 - i < f) →  J Γ y 17 [some (.ref (Z.2.1 (2 + k))), some (.int (nI ln)), some (.int (nI nn)), some (.int (nI i))] [] := by
    intro f
    induction f with
    | zero =>
      intro i y hi hyI hyc hya hyz hf
      omega
    | succ f ih17 =>
      intro i y hi hyI hyc hya hyz hf
      refine J_iload_n C dX3_renew_17 rfl rfl ?_
      refine J_bipush C (v := nI 60) dX3_renew_18 (by decide) ?_
      refine J_icmp_ge_n C (tgt := 36) dX3_renew_20 (by decide) (by omega) (by omega) (fun c20 => ?_) (fun c20 => ?_)
      · skip
        exact E dX3_renew_36 (absC_renew hA hk4 (hyc.trans (by rw [e5])) (fun i h1 h2 h3 => (congrFun hyI i).trans (e4 i h1 h2 h3)) (fun a ha => (hya a ha).trans (by rw [e5])) ((congrFun hyI _).trans e1) ((congrFun hyI _).trans e2) ((congrFun hyI _).trans e3) (fun j hj => hyz j (by omega)))
      · skip
        refine J_aload_n C dX3_renew_23 rfl rfl ?_
        refine G3_cells hk4 C wd_2_13 dX3_renew_24 ?_
        refine J_iload_n C dX3_renew_27 rfl rfl ?_
        refine J_iconst C (v := nI 0) dX3_renew_28 (by decide) ?_
        refine S_cells hk4 C (by omega) dX3_renew_29 ?_
        refine J_iinc C (v := nI (i + 1)) (L' := [some (.ref (Z.2.1 (2 + k))), some (.int (nI ln)), some (.int (nI nn)), some (.int (nI (i + 1)))]) dX3_renew_30 rfl (nI_1 _) (by decide) rfl rfl ?_
        refine J_goto (tgt := 17) C dX3_renew_33 (by decide) ?_
        refine J_drop ?_ (ih17 (i + 1) (setA y (6 + k) (upd (y.2.1 (6 + k)) i (nI 0))) (by omega) hyI hyc (fun a ha => (sA_ne ha).trans (hya a ha)) (fun j hj => by rw [sA_eq]; by_cases e : j = i; (rw [e, upd_eq]; rfl); (rw [upd_ne e]; exact hyz j (by omega))) (by omega))
        exact ⟨rfl, rfl, rfl, rfl, trivial⟩
  refine J_drop ?_ (lp17 (60 + 1) 0 x0 (by omega) rfl rfl (fun _ _ => rfl) (fun j hj => absurd hj (Nat.not_lt_zero j)) (by omega))
  exact ⟨rfl, rfl, rfl, rfl, trivial⟩
def rm_X5_sheet : Room := ({ frames := 2, cells := 0, slots := 0, locals := 42 })
set_option maxRecDepth 20000 in
theorem c_X5_sheet (l : Launch) (Z : EC) (x : St) (A : AB) (hA : AbsC x A) (hk : AOK A) (k la n : Int32) : MIi l Z (wC Z) yX5_sheet cX5_sheet 4 rm_X5_sheet [.ref (Z.2.1 0), .int k, .int la, .int n] x (fun r x1 => r = R_sheet A k la n ∧ AbsC x1 (N_sheet A k la n)) := by
  obtain ⟨⟨hcur, htr, hne, hr⟩, hH, hR, hT, hF⟩ := id hA
  obtain ⟨ok, hkH, hkR, hkr⟩ := id hk
  obtain ⟨ok0, ok1, ok2, ok3, ok4, ok5, ok6, ok7⟩ := id ok
  refine MIi_of (own := RX5) (L0 := [some (.ref (Z.2.1 0)), some (.int k), some (.int la), some (.int n)]) (by decide) rfl (Nat.le_of_ble_eq_true rfl) ⟨rfl, rfl, rfl, rfl, trivial⟩ ?_
  intro Γ C E
  refine J_aload_n C dX5_sheet_0 rfl rfl ?_
  refine J_iconst C (v := nI 0) dX5_sheet_1 (by decide) ?_
  refine P5_latestFault C wd_4_16 dX5_sheet_2 ?_
  have hAz := absC_F (v := nI 0) hA
  generalize setI x 1 (nI 0) = x0 at hAz ⊢
  obtain ⟨⟨hcur2, htr2, hne2, hr2o⟩, hH2o, hR2o, hT2, hF2⟩ := id hAz
  first | have hr2 : ShR x0 x0.2.2.1 A.1 := hr2o | have hr2 := hr2o
  first | have hH2 : CH x0 A.2.1 := hH2o | have hH2 := hH2o
  first | have hR2 : CR x0 A.2.2.1 := hR2o | have hR2 := hR2o
  refine J_iload_n C dX5_sheet_5 rfl rfl ?_
  refine J_callSz C (As := [.int k]) (c_X5_isSheet l Z _ _) cw_RX5_53 wd_4_20 rfl rfl (Nat.le_of_ble_eq_true rfl) rfl rfl (Nat.le_of_ble_eq_true rfl) (Nat.le_of_ble_eq_true rfl) dX5_sheet_6 (fun b6 x6 hp6 => ?_)
  obtain ⟨rfl, rfl⟩ := hp6
  refine J_if_ne_d C (tgt := 14) dX5_sheet_9 (by decide) (fun c9 => ?_) (fun c9 => ?_)
  · skip
    obtain ⟨kn, k0, k3, rfl⟩ := rng_nat2 (A := 0) (B := 3) c9
    have hkn : kn < 4 := by omega
    have tnk := tn_nI (n := kn) (by omega)
    have gk := hkH kn hkn
    refine J_iload_n C dX5_sheet_14 rfl rfl ?_
    refine J_callSz C (As := [.int la]) (c_X5_isLane l Z _ _) cw_RX5_57 wd_5_2 rfl rfl (Nat.le_of_ble_eq_true rfl) rfl rfl (Nat.le_of_ble_eq_true rfl) (Nat.le_of_ble_eq_true rfl) dX5_sheet_15 (fun b15 x15 hp15 => ?_)
    obtain ⟨rfl, rfl⟩ := hp15
    refine J_if_eq_d C (tgt := 27) dX5_sheet_18 (by decide) (fun c18 => ?_) (fun c18 => ?_)
    · skip
      refine J_bipush C (v := (-2)) dX5_sheet_27 (by decide) ?_
      exact E dX5_sheet_29 (⟨by rw [R_sheet, if_pos c9, if_neg c18] <;> first | rfl | decide, by rw [N_sheet, if_pos c9, if_neg c18]; first | exact hAz | (simp only [tnk, tnla, tnn]; exact hAz)⟩)
    · skip
      obtain ⟨lan, la0, la9, rfl⟩ := rng_nat2 (A := 0) (B := 2) (c18)
      have tnla := tn_nI (n := lan) (by omega)
      refine J_iload_n C dX5_sheet_21 rfl rfl ?_
      refine J_bipush C (v := nI 60) dX5_sheet_22 (by decide) ?_
      refine J_icmp_le C (tgt := 30) dX5_sheet_24 (by decide) (fun c24 => ?_) (fun c24 => ?_)
      · skip
        refine J_iload_n C dX5_sheet_30 rfl rfl ?_
        refine J_if_ge C (tgt := 40) dX5_sheet_31 (by decide) (fun c31 => ?_) (fun c31 => ?_)
        · skip
          obtain ⟨nn, n0, n9, rfl⟩ := rng_nat2 (q := n) (A := 0) (B := 60) ⟨by have := ge0_i c31; omega, by have := le60 c24; omega⟩
          have tnn := tn_nI (n := nn) (by omega)
          refine J_aload_n C dX5_sheet_40 rfl rfl ?_
          refine G5_sheets C wd_1_13 dX5_sheet_41 ?_
          refine J_iload_n C dX5_sheet_44 rfl rfl ?_
          refine L_sheets C hkn dX5_sheet_45 ?_
          refine J_iload_n C dX5_sheet_46 rfl rfl ?_
          refine J_iload_n C dX5_sheet_47 rfl rfl ?_
          refine J_callVv C (N := 4) (As := [.int (nI lan), .int (nI nn)]) (c_X3_renew l Z _ (AsF A (nI 0)) hAz hk kn _ _ hkn (by omega)) cw_RX5_266 wd_32_8 wd_32_9 (at_sheet hkn) rfl rfl rfl (Nat.le_of_ble_eq_true rfl) rfl rfl (Nat.le_of_ble_eq_true rfl) (Nat.le_of_ble_eq_true rfl) dX5_sheet_48 (fun x48 hp48 => ?_)
          have hA48 := hp48
          obtain ⟨⟨hcur48, htr48, hne48, hr48o⟩, hH48o, hR48o, hT48, hF48⟩ := id hA48
          first | have hr48 : ShR x48 x48.2.2.1 A.1 := hr48o | have hr48 := hr48o
          first | have hH48 : CH x48 A.2.1 := hH48o | have hH48 := hH48o
          first | have hR48 : CR x48 A.2.2.1 := hR48o | have hR48 := hR48o
          refine J_iconst C (v := nI 1) dX5_sheet_51 (by decide) ?_
          exact E dX5_sheet_52 (⟨by rw [R_sheet, if_pos c9, if_pos c18, if_neg (le60 c24), if_neg (ge0_i c31)] <;> first | rfl | decide, by rw [N_sheet, if_pos c9, if_pos c18, if_neg (le60 c24), if_neg (ge0_i c31)]; first | exact hA48 | (simp only [tnk, tnla, tnn]; exact hA48)⟩)
        · skip
          refine J_aload_n C dX5_sheet_34 rfl rfl ?_
          refine J_iconst C (v := nI 4) dX5_sheet_35 (by decide) ?_
          refine J_callVi C (q0 := 0) (ci := 5) (N := 8) (As := [.int (nI 4)]) (c_X5_faulted l Z _ (AsF A (nI 0)) hAz hk _) cw_RX5_64 wd_5_15 wd_5_16 rfl rfl rfl rfl (Nat.le_of_ble_eq_true rfl) rfl rfl (Nat.le_of_ble_eq_true rfl) (Nat.le_of_ble_eq_true rfl) dX5_sheet_36 (fun r36 x36 hp36 => ?_)
          obtain ⟨rfl, hA36⟩ := hp36
          obtain ⟨⟨hcur36, htr36, hne36, hr36o⟩, hH36o, hR36o, hT36, hF36⟩ := id hA36
          first | have hr36 : ShR x36 x36.2.2.1 A.1 := hr36o | have hr36 := hr36o
          first | have hH36 : CH x36 A.2.1 := hH36o | have hH36 := hH36o
          first | have hR36 : CR x36 A.2.2.1 := hR36o | have hR36 := hR36o
          exact E dX5_sheet_39 (⟨by rw [R_sheet, if_pos c9, if_pos c18, if_neg (le60 c24), if_pos (lt0_i c31)] <;> first | rfl | decide, by rw [N_sheet, if_pos c9, if_pos c18, if_neg (le60 c24), if_pos (lt0_i c31)]; first | exact hA36 | (simp only [tnk, tnla, tnn]; exact hA36)⟩)
      · skip
        refine J_bipush C (v := (-2)) dX5_sheet_27 (by decide) ?_
        exact E dX5_sheet_29 (⟨by rw [R_sheet, if_pos c9, if_pos c18, if_pos (gt60 c24)] <;> first | rfl | decide, by rw [N_sheet, if_pos c9, if_pos c18, if_pos (gt60 c24)]; first | exact hAz | (simp only [tnk, tnla, tnn]; exact hAz)⟩)
  · skip
    refine J_iconst C (v := (-1)) dX5_sheet_12 (by decide) ?_
    exact E dX5_sheet_13 (⟨by rw [R_sheet, if_neg c9] <;> first | rfl | decide, by rw [N_sheet, if_neg c9]; first | exact hAz | (simp only [tnk, tnla, tnn]; exact hAz)⟩)
def rm_X3_cut : Room := ({ frames := 0, cells := 0, slots := 0, locals := 0 })
set_option maxRecDepth 20000 in
theorem c_X3_cut (l : Launch) (Z : EC) (x : St) {k : Nat} (hk : k < 4) {sk : Nat} (hl : x.1 (3 + 3 * k) = nI (sk - 1)) (h1 : sk ≠ 0) (h3 : sk ≤ 3) (v : Int32) : MIi l Z (wC Z) yX3_cut cX3_cut 2 rm_X3_cut [.ref (Z.2.1 (2 + k)), .int v] x (fun r x1 => r = cutI sk v ∧ x = x1) := by
  refine MIi_of (own := RX3) (L0 := [some (.ref (Z.2.1 (2 + k))), some (.int v)]) (by decide) rfl (Nat.le_of_ble_eq_true rfl) ⟨rfl, rfl, trivial⟩ ?_
  intro Γ C E
  refine J_aload_n C dX3_cut_0 rfl rfl ?_
  refine G3_lane hk C wd_32_12 dX3_cut_1 ?_
  rw [show x.1 (3 + 3 * k) = nI (sk - 1) from hl]
  by_cases s4_0 : sk - 1 = 0
  · skip
    refine J_lookup C (tgt := 32) dX3_cut_4 rfl (off := 28) (by rw [s4_0]; decide) (by decide) ?_
    refine J_iload_n C dX3_cut_32 rfl rfl ?_
    refine J_i2b C (v := v.toInt8.toInt32) dX3_cut_33 (rfl) ?_
    exact E dX3_cut_34 (⟨by rw [cutI, if_pos (by omega)], rfl⟩)
  by_cases s4_1 : sk - 1 = 1
  · skip
    refine J_lookup C (tgt := 35) dX3_cut_4 rfl (off := 31) (by rw [s4_1]; decide) (by decide) ?_
    refine J_iload_n C dX3_cut_35 rfl rfl ?_
    refine J_i2s C (v := v.toInt16.toInt32) dX3_cut_36 (rfl) ?_
    exact E dX3_cut_37 (⟨by rw [cutI, if_neg (by omega), if_pos (by omega)], rfl⟩)
  refine J_lookup C (tgt := 38) dX3_cut_4 rfl (off := 34) (by show Op.lookupswitch.offset [((0 : Int), (28 : Int)), ((1 : Int), (31 : Int))] _ _ = _; rw [lv_osw (k := nI 0) (fun e => s4_0 ((nI_eq (by omega) (by decide)).mp e)) (by decide), lv_osw (k := nI 1) (fun e => s4_1 ((nI_eq (by omega) (by decide)).mp e)) (by decide)]; rfl) (by decide) ?_
  refine J_iload_n C dX3_cut_38 rfl rfl ?_
  exact E dX3_cut_39 (⟨by rw [cutI, if_neg (by omega), if_neg (by omega)], rfl⟩)
def rm_X5_put : Room := ({ frames := 2, cells := 0, slots := 0, locals := 44 })
set_option maxRecDepth 20000 in
theorem c_X5_put (l : Launch) (Z : EC) (x : St) (A : AB) (hA : AbsC x A) (hk : AOK A) (k i v : Int32) : MIi l Z (wC Z) yX5_put cX5_put 4 rm_X5_put [.ref (Z.2.1 0), .int k, .int i, .int v] x (fun r x1 => r = R_put A k i v ∧ AbsC x1 (N_put A k i v)) := by
  obtain ⟨⟨hcur, htr, hne, hr⟩, hH, hR, hT, hF⟩ := id hA
  obtain ⟨ok, hkH, hkR, hkr⟩ := id hk
  obtain ⟨ok0, ok1, ok2, ok3, ok4, ok5, ok6, ok7⟩ := id ok
  refine MIi_of (own := RX5) (L0 := [some (.ref (Z.2.1 0)), some (.int k), some (.int i), some (.int v)]) (by decide) rfl (Nat.le_of_ble_eq_true rfl) ⟨rfl, rfl, rfl, rfl, trivial⟩ ?_
  intro Γ C E
  refine J_aload_n C dX5_put_0 rfl rfl ?_
  refine J_iconst C (v := nI 0) dX5_put_1 (by decide) ?_
  refine P5_latestFault C wd_4_16 dX5_put_2 ?_
  have hAz := absC_F (v := nI 0) hA
  generalize setI x 1 (nI 0) = x0 at hAz ⊢
  obtain ⟨⟨hcur2, htr2, hne2, hr2o⟩, hH2o, hR2o, hT2, hF2⟩ := id hAz
  first | have hr2 : ShR x0 x0.2.2.1 A.1 := hr2o | have hr2 := hr2o
  first | have hH2 : CH x0 A.2.1 := hH2o | have hH2 := hH2o
  first | have hR2 : CR x0 A.2.2.1 := hR2o | have hR2 := hR2o
  refine J_iload_n C dX5_put_5 rfl rfl ?_
  refine J_callSz C (As := [.int k]) (c_X5_isSheet l Z _ _) cw_RX5_53 wd_4_20 rfl rfl (Nat.le_of_ble_eq_true rfl) rfl rfl (Nat.le_of_ble_eq_true rfl) (Nat.le_of_ble_eq_true rfl) dX5_put_6 (fun b6 x6 hp6 => ?_)
  obtain ⟨rfl, rfl⟩ := hp6
  refine J_if_ne_d C (tgt := 14) dX5_put_9 (by decide) (fun c9 => ?_) (fun c9 => ?_)
  · skip
    obtain ⟨kn, k0, k3, rfl⟩ := rng_nat2 (A := 0) (B := 3) c9
    have hkn : kn < 4 := by omega
    have tnk := tn_nI (n := kn) (by omega)
    have gk := hkH kn hkn
    refine J_aload_n C dX5_put_14 rfl rfl ?_
    refine G5_sheets C wd_1_13 dX5_put_15 ?_
    refine J_iload_n C dX5_put_18 rfl rfl ?_
    refine L_sheets C hkn dX5_put_19 ?_
    refine G3_isThere hkn C wd_5_7 dX5_put_20 ?_
    rw [show x0.1 (2 + 3 * kn) = b2i (decide (A.2.1.1 kn ≠ 0)) from (hH2 kn hkn).1]
    refine J_if_ne_d C (tgt := 32) dX5_put_23 (by decide) (fun c23 => ?_) (fun c23 => ?_)
    · skip
      refine J_aload_n C dX5_put_32 rfl rfl ?_
      refine G5_sheets C wd_1_13 dX5_put_33 ?_
      refine J_iload_n C dX5_put_36 rfl rfl ?_
      refine L_sheets C hkn dX5_put_37 ?_
      refine J_iload_n C dX5_put_38 rfl rfl ?_
      refine J_iconst C (v := nI 1) dX5_put_39 (by decide) ?_
      refine J_callVz C (N := 4) (As := [.int i, .int (nI 1)]) (c_X3_has l Z _ hkn ((hH2 kn hkn).2 c23).2.1 gk.2 _ _) cw_RX5_273 wd_5_10 wd_5_11 (at_sheet hkn) rfl rfl rfl (Nat.le_of_ble_eq_true rfl) rfl rfl (Nat.le_of_ble_eq_true rfl) (Nat.le_of_ble_eq_true rfl) dX5_put_40 (fun b40 x40 hp40 => ?_)
      obtain ⟨rfl, rfl⟩ := hp40
      refine J_if_ne_d C (tgt := 52) dX5_put_43 (by decide) (fun c43 => ?_) (fun c43 => ?_)
      · skip
        obtain ⟨im, him, rfl⟩ := rng_nat (q := i) (P := A.2.1.2.1 kn) (by have := has1 c43; omega)
        have tni := tn_nI (n := im) (by omega)
        refine J_aload_n C dX5_put_52 rfl rfl ?_
        refine G5_sheets C wd_1_13 dX5_put_53 ?_
        refine J_iload_n C dX5_put_56 rfl rfl ?_
        refine L_sheets C hkn dX5_put_57 ?_
        refine G3_cells hkn C wd_22_15 dX5_put_58 ?_
        refine J_iload_n C dX5_put_61 rfl rfl ?_
        refine J_aload_n C dX5_put_62 rfl rfl ?_
        refine G5_sheets C wd_1_13 dX5_put_63 ?_
        refine J_iload_n C dX5_put_66 rfl rfl ?_
        refine L_sheets C hkn dX5_put_67 ?_
        refine J_iload_n C dX5_put_68 rfl rfl ?_
        refine J_callVi C (N := 4) (As := [.int v]) (c_X3_cut l Z _ hkn ((hH2 kn hkn).2 c23).1 c23 gk.1 _) cw_RX5_276 wd_33_6 wd_33_7 (at_sheet hkn) rfl rfl rfl (Nat.le_of_ble_eq_true rfl) rfl rfl (Nat.le_of_ble_eq_true rfl) (Nat.le_of_ble_eq_true rfl) dX5_put_69 (fun r69 x69 hp69 => ?_)
        obtain ⟨rfl, rfl⟩ := hp69
        refine S_cells hkn C (by omega) dX5_put_72 ?_
        refine J_iconst C (v := nI 1) dX5_put_73 (by decide) ?_
        exact E dX5_put_74 (⟨by rw [R_put, if_pos c9, tnk, if_neg c23, if_pos (has1 c43)] <;> first | rfl | decide, by rw [N_put, if_pos c9, tnk, if_neg c23, if_pos (has1 c43)]; first | exact hAz | (simp only [tni]; exact absC_put hAz hkn)⟩)
      · skip
        refine J_aload_n C dX5_put_46 rfl rfl ?_
        refine J_iconst C (v := nI 3) dX5_put_47 (by decide) ?_
        refine J_callVi C (q0 := 0) (ci := 5) (N := 8) (As := [.int (nI 3)]) (c_X5_faulted l Z _ (AsF A (nI 0)) hAz hk _) cw_RX5_64 wd_5_15 wd_5_16 rfl rfl rfl rfl (Nat.le_of_ble_eq_true rfl) rfl rfl (Nat.le_of_ble_eq_true rfl) (Nat.le_of_ble_eq_true rfl) dX5_put_48 (fun r48 x48 hp48 => ?_)
        obtain ⟨rfl, hA48⟩ := hp48
        obtain ⟨⟨hcur48, htr48, hne48, hr48o⟩, hH48o, hR48o, hT48, hF48⟩ := id hA48
        first | have hr48 : ShR x48 x48.2.2.1 A.1 := hr48o | have hr48 := hr48o
        first | have hH48 : CH x48 A.2.1 := hH48o | have hH48 := hH48o
        first | have hR48 : CR x48 A.2.2.1 := hR48o | have hR48 := hR48o
        exact E dX5_put_51 (⟨by rw [R_put, if_pos c9, tnk, if_neg c23, if_neg (fun h => c43 (has1r h))] <;> first | rfl | decide, by rw [N_put, if_pos c9, tnk, if_neg c23, if_neg (fun h => c43 (has1r h))]; first | exact hA48 | (simp only [tni]; exact absC_put hAz hkn)⟩)
    · skip
      refine J_aload_n C dX5_put_26 rfl rfl ?_
      refine J_iconst C (v := nI 1) dX5_put_27 (by decide) ?_
      refine J_callVi C (q0 := 0) (ci := 5) (N := 8) (As := [.int (nI 1)]) (c_X5_faulted l Z _ (AsF A (nI 0)) hAz hk _) cw_RX5_64 wd_5_15 wd_5_16 rfl rfl rfl rfl (Nat.le_of_ble_eq_true rfl) rfl rfl (Nat.le_of_ble_eq_true rfl) (Nat.le_of_ble_eq_true rfl) dX5_put_28 (fun r28 x28 hp28 => ?_)
      obtain ⟨rfl, hA28⟩ := hp28
      obtain ⟨⟨hcur28, htr28, hne28, hr28o⟩, hH28o, hR28o, hT28, hF28⟩ := id hA28
      first | have hr28 : ShR x28 x28.2.2.1 A.1 := hr28o | have hr28 := hr28o
      first | have hH28 : CH x28 A.2.1 := hH28o | have hH28 := hH28o
      first | have hR28 : CR x28 A.2.2.1 := hR28o | have hR28 := hR28o
      exact E dX5_put_31 (⟨by rw [R_put, if_pos c9, tnk, if_pos (nn0 c23)] <;> first | rfl | decide, by rw [N_put, if_pos c9, tnk, if_pos (nn0 c23)]; first | exact hA28 | (simp only [tni]; exact absC_put hAz hkn)⟩)
  · skip
    refine J_iconst C (v := (-1)) dX5_put_12 (by decide) ?_
    exact E dX5_put_13 (⟨by rw [R_put, if_neg c9] <;> first | rfl | decide, by rw [N_put, if_neg c9]; first | exact hAz | (simp only [tni]; exact absC_put hAz hkn)⟩)
def rm_X5_cell : Room := ({ frames := 3, cells := 0, slots := 0, locals := 67 })
set_option maxRecDepth 20000 in
theorem c_X5_cell (l : Launch) (Z : EC) (x : St) (A : AB) (hA : AbsC x A) (hk : AOK A) (k i la : Int32) : MIl l Z (wC Z) yX5_cell cX5_cell 5 rm_X5_cell [.ref (Z.2.1 0), .int k, .int i, .int la] x (fun r x1 => r = R_cell A k i la ∧ AbsC x1 (N_cell A k i la)) := by
  obtain ⟨⟨hcur, htr, hne, hr⟩, hH, hR, hT, hF⟩ := id hA
  obtain ⟨ok, hkH, hkR, hkr⟩ := id hk
  obtain ⟨ok0, ok1, ok2, ok3, ok4, ok5, ok6, ok7⟩ := id ok
  refine MIl_of (own := RX5) (L0 := [some (.ref (Z.2.1 0)), some (.int k), some (.int i), some (.int la), none]) (by decide) rfl (Nat.le_of_ble_eq_true rfl) ⟨rfl, rfl, rfl, rfl, trivial⟩ ?_
  intro Γ C E
  refine J_aload_n C dX5_cell_0 rfl rfl ?_
  refine J_iconst C (v := nI 0) dX5_cell_1 (by decide) ?_
  refine P5_latestFault C wd_4_16 dX5_cell_2 ?_
  have hAz := absC_F (v := nI 0) hA
  generalize setI x 1 (nI 0) = x0 at hAz ⊢
  obtain ⟨⟨hcur2, htr2, hne2, hr2o⟩, hH2o, hR2o, hT2, hF2⟩ := id hAz
  first | have hr2 : ShR x0 x0.2.2.1 A.1 := hr2o | have hr2 := hr2o
  first | have hH2 : CH x0 A.2.1 := hH2o | have hH2 := hH2o
  first | have hR2 : CR x0 A.2.2.1 := hR2o | have hR2 := hR2o
  refine J_iload_n C dX5_cell_5 rfl rfl ?_
  refine J_callSz C (As := [.int k]) (c_X5_isSheet l Z _ _) cw_RX5_53 wd_4_20 rfl rfl (Nat.le_of_ble_eq_true rfl) rfl rfl (Nat.le_of_ble_eq_true rfl) (Nat.le_of_ble_eq_true rfl) dX5_cell_6 (fun b6 x6 hp6 => ?_)
  obtain ⟨rfl, rfl⟩ := hp6
  refine J_if_eq_d C (tgt := 19) dX5_cell_9 (by decide) (fun c9 => ?_) (fun c9 => ?_)
  · skip
    refine J_ldc2 C wd_31_10 dX5_cell_19 ?_
    exact E dX5_cell_22 (⟨by rw [R_cell, if_neg c9]; rfl, by rw [N_cell, if_neg c9]; exact hAz⟩)
  · skip
    obtain ⟨kn, k0, k3, rfl⟩ := rng_nat2 (A := 0) (B := 3) c9
    have hkn : kn < 4 := by omega
    have tnk := tn_nI (n := kn) (by omega)
    have gk := hkH kn hkn
    refine J_iload_n C dX5_cell_12 rfl rfl ?_
    refine J_callSz C (As := [.int la]) (c_X5_isLane l Z _ _) cw_RX5_57 wd_5_2 rfl rfl (Nat.le_of_ble_eq_true rfl) rfl rfl (Nat.le_of_ble_eq_true rfl) (Nat.le_of_ble_eq_true rfl) dX5_cell_13 (fun b13 x13 hp13 => ?_)
    obtain ⟨rfl, rfl⟩ := hp13
    refine J_if_ne_d C (tgt := 23) dX5_cell_16 (by decide) (fun c16 => ?_) (fun c16 => ?_)
    · skip
      refine J_aload_n C dX5_cell_23 rfl rfl ?_
      refine G5_sheets C wd_1_13 dX5_cell_24 ?_
      refine J_iload_n C dX5_cell_27 rfl rfl ?_
      refine L_sheets C hkn dX5_cell_28 ?_
      refine J_iload_n C dX5_cell_29 rfl rfl ?_
      refine J_iload_n C dX5_cell_30 rfl rfl ?_
      refine J_iconst C (v := nI 1) dX5_cell_31 (by decide) ?_
      refine J_callSi C (As := [.ref (Z.2.1 (2 + kn)), .int la, .int i, .int (nI 1)]) (c_X5_rowFault l Z _ hkn A.2.1 hH2 gk.2 _ _ _) cw_RX5_60 wd_5_5 rfl rfl (Nat.le_of_ble_eq_true rfl) rfl rfl (Nat.le_of_ble_eq_true rfl) (Nat.le_of_ble_eq_true rfl) dX5_cell_32 (fun r32 x32 hp32 => ?_)
      obtain ⟨rfl, rfl⟩ := hp32
      refine J_istore C (L' := [some (.ref (Z.2.1 0)), some (.int (nI kn)), some (.int i), some (.int la), some (.int (nI (rowF A.2.1 kn la i (nI 1))))]) dX5_cell_35 (by decide) rfl rfl ?_
      refine J_iload C dX5_cell_37 rfl ?_
      have hrl := rowF_le A.2.1 kn la i (nI 1)
      refine J_if_eq_n C (tgt := 52) dX5_cell_39 (by decide) (by omega) (fun c39 => ?_) (fun c39 => ?_)
      · skip
        obtain ⟨q1, q2, q3, q4, q5⟩ := rowF0 c39
        have q6 : (nI 1).toInt = 1 := by decide
        obtain ⟨im, him, rfl⟩ := rng_nat (P := A.2.1.2.1 kn) ⟨q3, by omega⟩
        have tni := tn_nI (n := im) (by omega)
        refine J_aload_n C dX5_cell_52 rfl rfl ?_
        refine G5_sheets C wd_1_13 dX5_cell_53 ?_
        refine J_iload_n C dX5_cell_56 rfl rfl ?_
        refine L_sheets C hkn dX5_cell_57 ?_
        refine G3_cells hkn C wd_22_15 dX5_cell_58 ?_
        refine J_iload_n C dX5_cell_61 rfl rfl ?_
        refine L_cells hkn C (v := A.2.1.2.2 kn im) (by omega) (((hH2 kn hkn).2 q1).2.2 im him) dX5_cell_62 ?_
        refine J_i2l C (v := (A.2.1.2.2 kn im).toInt64) dX5_cell_63 (rfl) ?_
        exact E dX5_cell_64 (⟨by rw [R_cell, if_pos c9, if_pos c16, tnk, if_pos c39, tni], by rw [N_cell, if_pos c9, if_pos c16, tnk, c39]; exact hAz⟩)
      · skip
        refine J_aload_n C dX5_cell_42 rfl rfl ?_
        refine J_iload C dX5_cell_43 rfl ?_
        refine P5_latestFault C wd_4_16 dX5_cell_45 ?_
        refine J_ldc2 C wd_31_10 dX5_cell_48 ?_
        exact E dX5_cell_51 (⟨by rw [R_cell, if_pos c9, if_pos c16, tnk, if_neg c39]; rfl, by rw [N_cell, if_pos c9, if_pos c16, tnk]; exact absC_F (A := AsF A (nI 0)) hAz⟩)
    · skip
      refine J_ldc2 C wd_31_10 dX5_cell_19 ?_
      exact E dX5_cell_22 (⟨by rw [R_cell, if_pos c9, if_neg c16]; rfl, by rw [N_cell, if_pos c9, if_neg c16]; exact hAz⟩)
def rm_X5_copy : Room := ({ frames := 2, cells := 0, slots := 0, locals := 60 })
set_option maxRecDepth 20000 in
theorem c_X5_copy (l : Launch) (Z : EC) (x : St) (A : AB) (hA : AbsC x A) (hk : AOK A) (k i o j n : Int32) : MIi l Z (wC Z) yX5_copy cX5_copy 8 rm_X5_copy [.ref (Z.2.1 0), .int k, .int i, .int o, .int j, .int n] x (fun r x1 => r = R_copy A k i o j n ∧ AbsC x1 (N_copy A k i o j n)) := by
  obtain ⟨⟨hcur, htr, hne, hr⟩, hH, hR, hT, hF⟩ := id hA
  obtain ⟨ok, hkH, hkR, hkr⟩ := id hk
  obtain ⟨ok0, ok1, ok2, ok3, ok4, ok5, ok6, ok7⟩ := id ok
  refine MIi_of (own := RX5) (L0 := [some (.ref (Z.2.1 0)), some (.int k), some (.int i), some (.int o), some (.int j), some (.int n), none, none]) (by decide) rfl (Nat.le_of_ble_eq_true rfl) ⟨rfl, rfl, rfl, rfl, rfl, rfl, trivial⟩ ?_
  intro Γ C E
  refine J_aload_n C dX5_copy_0 rfl rfl ?_
  refine J_iconst C (v := nI 0) dX5_copy_1 (by decide) ?_
  refine P5_latestFault C wd_4_16 dX5_copy_2 ?_
  have hAz := absC_F (v := nI 0) hA
  generalize setI x 1 (nI 0) = x0 at hAz ⊢
  obtain ⟨⟨hcur2, htr2, hne2, hr2o⟩, hH2o, hR2o, hT2, hF2⟩ := id hAz
  first | have hr2 : ShR x0 x0.2.2.1 A.1 := hr2o | have hr2 := hr2o
  first | have hH2 : CH x0 A.2.1 := hH2o | have hH2 := hH2o
  first | have hR2 : CR x0 A.2.2.1 := hR2o | have hR2 := hR2o
  refine J_iload_n C dX5_copy_5 rfl rfl ?_
  refine J_callSz C (As := [.int k]) (c_X5_isSheet l Z _ _) cw_RX5_53 wd_4_20 rfl rfl (Nat.le_of_ble_eq_true rfl) rfl rfl (Nat.le_of_ble_eq_true rfl) (Nat.le_of_ble_eq_true rfl) dX5_copy_6 (fun b6 x6 hp6 => ?_)
  obtain ⟨rfl, rfl⟩ := hp6
  refine J_if_eq_d C (tgt := 19) dX5_copy_9 (by decide) (fun c9 => ?_) (fun c9 => ?_)
  · skip
    refine J_iconst C (v := (-1)) dX5_copy_19 (by decide) ?_
    exact E dX5_copy_20 (⟨by rw [R_copy, if_neg c9] <;> first | rfl | decide, by rw [N_copy, if_neg c9]; first | exact hAz | (simp only [tni, tnj, tnn]; exact absC_copy hAz hkn hon c42 (show im + nm ≤ A.2.1.2.1 kn by omega) (show jm + nm ≤ A.2.1.2.1 on by omega))⟩)
  · skip
    obtain ⟨kn, k0, k3, rfl⟩ := rng_nat2 (A := 0) (B := 3) c9
    have hkn : kn < 4 := by omega
    have tnk := tn_nI (n := kn) (by omega)
    have gk := hkH kn hkn
    refine J_iload_n C dX5_copy_12 rfl rfl ?_
    refine J_callSz C (As := [.int o]) (c_X5_isSheet l Z _ _) cw_RX5_53 wd_4_20 rfl rfl (Nat.le_of_ble_eq_true rfl) rfl rfl (Nat.le_of_ble_eq_true rfl) (Nat.le_of_ble_eq_true rfl) dX5_copy_13 (fun b13 x13 hp13 => ?_)
    obtain ⟨rfl, rfl⟩ := hp13
    refine J_if_ne_d C (tgt := 21) dX5_copy_16 (by decide) (fun c16 => ?_) (fun c16 => ?_)
    · skip
      obtain ⟨on, o0, o3, rfl⟩ := rng_nat2 (A := 0) (B := 3) c16
      have hon : on < 4 := by omega
      have tno := tn_nI (n := on) (by omega)
      have go := hkH on hon
      refine J_aload_n C dX5_copy_21 rfl rfl ?_
      refine G5_sheets C wd_1_13 dX5_copy_22 ?_
      refine J_iload_n C dX5_copy_25 rfl rfl ?_
      refine L_sheets C hkn dX5_copy_26 ?_
      refine J_astore C (L' := [some (.ref (Z.2.1 0)), some (.int (nI kn)), some (.int i), some (.int (nI on)), some (.int j), some (.int n), some (.ref (Z.2.1 (2 + kn))), none]) dX5_copy_27 (by decide) rfl rfl ?_
      refine J_aload_n C dX5_copy_29 rfl rfl ?_
      refine G5_sheets C wd_1_13 dX5_copy_30 ?_
      refine J_iload_n C dX5_copy_33 rfl rfl ?_
      refine L_sheets C hon dX5_copy_34 ?_
      refine J_astore C (L' := [some (.ref (Z.2.1 0)), some (.int (nI kn)), some (.int i), some (.int (nI on)), some (.int j), some (.int n), some (.ref (Z.2.1 (2 + kn))), some (.ref (Z.2.1 (2 + on)))]) dX5_copy_35 (by decide) rfl rfl ?_
      refine J_aload C dX5_copy_37 rfl ?_
      refine G3_isThere hkn C wd_5_7 dX5_copy_39 ?_
      rw [show x0.1 (2 + 3 * kn) = b2i (decide (A.2.1.1 kn ≠ 0)) from (hH2 kn hkn).1]
      refine J_if_eq_d C (tgt := 53) dX5_copy_42 (by decide) (fun c42 => ?_) (fun c42 => ?_)
      · skip
        refine J_aload_n C dX5_copy_53 rfl rfl ?_
        refine J_iconst C (v := nI 1) dX5_copy_54 (by decide) ?_
        refine J_callVi C (q0 := 0) (ci := 5) (N := 8) (As := [.int (nI 1)]) (c_X5_faulted l Z _ (AsF A (nI 0)) hAz hk _) cw_RX5_64 wd_5_15 wd_5_16 rfl rfl rfl rfl (Nat.le_of_ble_eq_true rfl) rfl rfl (Nat.le_of_ble_eq_true rfl) (Nat.le_of_ble_eq_true rfl) dX5_copy_55 (fun r55 x55 hp55 => ?_)
        obtain ⟨rfl, hA55⟩ := hp55
        obtain ⟨⟨hcur55, htr55, hne55, hr55o⟩, hH55o, hR55o, hT55, hF55⟩ := id hA55
        first | have hr55 : ShR x55 x55.2.2.1 A.1 := hr55o | have hr55 := hr55o
        first | have hH55 : CH x55 A.2.1 := hH55o | have hH55 := hH55o
        first | have hR55 : CR x55 A.2.2.1 := hR55o | have hR55 := hR55o
        exact E dX5_copy_58 (⟨by rw [R_copy, if_pos c9, if_pos c16, tnk, tno, if_pos (nn0 c42)] <;> first | rfl | decide, by rw [N_copy, if_pos c9, if_pos c16, tnk, tno, if_pos (nn0 c42)]; first | exact hA55 | (simp only [tni, tnj, tnn]; exact absC_copy hAz hkn hon c42 (show im + nm ≤ A.2.1.2.1 kn by omega) (show jm + nm ≤ A.2.1.2.1 on by omega))⟩)
      · skip
        refine J_aload C dX5_copy_45 rfl ?_
        refine G3_isThere hon C wd_5_7 dX5_copy_47 ?_
        rw [show x0.1 (2 + 3 * on) = b2i (decide (A.2.1.1 on ≠ 0)) from (hH2 on hon).1]
        refine J_if_ne_d C (tgt := 59) dX5_copy_50 (by decide) (fun c50 => ?_) (fun c50 => ?_)
        · skip
          refine J_aload C dX5_copy_59 rfl ?_
          refine G3_lane hkn C wd_5_8 dX5_copy_61 ?_
          rw [show x0.1 (3 + 3 * kn) = nI (A.2.1.1 kn - 1) from ((hH2 kn hkn).2 c42).1]
          refine J_aload C dX5_copy_64 rfl ?_
          refine G3_lane hon C wd_5_8 dX5_copy_66 ?_
          rw [show x0.1 (3 + 3 * on) = nI (A.2.1.1 on - 1) from ((hH2 on hon).2 c50).1]
          have go2 := hkH on hon
          refine J_icmp_eq_n C (tgt := 78) dX5_copy_69 (by decide) (by omega) (by omega) (fun c69 => ?_) (fun c69 => ?_)
          · skip
            refine J_aload C dX5_copy_78 rfl ?_
            refine J_iload_n C dX5_copy_80 rfl rfl ?_
            refine J_iload C dX5_copy_81 rfl ?_
            refine J_callVz C (N := 4) (As := [.int i, .int n]) (c_X3_has l Z _ hkn ((hH2 kn hkn).2 c42).2.1 gk.2 _ _) cw_RX5_273 wd_5_10 wd_5_11 (at_sheet hkn) rfl rfl rfl (Nat.le_of_ble_eq_true rfl) rfl rfl (Nat.le_of_ble_eq_true rfl) (Nat.le_of_ble_eq_true rfl) dX5_copy_83 (fun b83 x83 hp83 => ?_)
            obtain ⟨rfl, rfl⟩ := hp83
            refine J_if_eq_d C (tgt := 101) dX5_copy_86 (by decide) (fun c86 => ?_) (fun c86 => ?_)
            · skip
              refine J_aload_n C dX5_copy_101 rfl rfl ?_
              refine J_iconst C (v := nI 3) dX5_copy_102 (by decide) ?_
              refine J_callVi C (q0 := 0) (ci := 5) (N := 8) (As := [.int (nI 3)]) (c_X5_faulted l Z _ (AsF A (nI 0)) hAz hk _) cw_RX5_64 wd_5_15 wd_5_16 rfl rfl rfl rfl (Nat.le_of_ble_eq_true rfl) rfl rfl (Nat.le_of_ble_eq_true rfl) (Nat.le_of_ble_eq_true rfl) dX5_copy_103 (fun r103 x103 hp103 => ?_)
              obtain ⟨rfl, hA103⟩ := hp103
              obtain ⟨⟨hcur103, htr103, hne103, hr103o⟩, hH103o, hR103o, hT103, hF103⟩ := id hA103
              first | have hr103 : ShR x103 x103.2.2.1 A.1 := hr103o | have hr103 := hr103o
              first | have hH103 : CH x103 A.2.1 := hH103o | have hH103 := hH103o
              first | have hR103 : CR x103 A.2.2.1 := hR103o | have hR103 := hR103o
              exact E dX5_copy_106 (⟨by rw [R_copy, if_pos c9, if_pos c16, tnk, tno, if_neg c42, if_neg c50, if_pos (show A.2.1.1 kn = A.2.1.1 on by omega), if_neg c86] <;> first | rfl | decide, by rw [N_copy, if_pos c9, if_pos c16, tnk, tno, if_neg c42, if_neg c50, if_pos (show A.2.1.1 kn = A.2.1.1 on by omega), if_neg c86]; first | exact hA103 | (simp only [tni, tnj, tnn]; exact absC_copy hAz hkn hon c42 (show im + nm ≤ A.2.1.2.1 kn by omega) (show jm + nm ≤ A.2.1.2.1 on by omega))⟩)
            · skip
              refine J_aload C dX5_copy_89 rfl ?_
              refine J_iload C dX5_copy_91 rfl ?_
              refine J_iload C dX5_copy_93 rfl ?_
              refine J_callVz C (N := 4) (As := [.int j, .int n]) (c_X3_has l Z _ hon ((hH2 on hon).2 c50).2.1 go.2 _ _) cw_RX5_273 wd_5_10 wd_5_11 (at_sheet hon) rfl rfl rfl (Nat.le_of_ble_eq_true rfl) rfl rfl (Nat.le_of_ble_eq_true rfl) (Nat.le_of_ble_eq_true rfl) dX5_copy_95 (fun b95 x95 hp95 => ?_)
              obtain ⟨rfl, rfl⟩ := hp95
              refine J_if_ne_d C (tgt := 107) dX5_copy_98 (by decide) (fun c98 => ?_) (fun c98 => ?_)
              · skip
                obtain ⟨im, i0, i9, rfl⟩ := rng_nat2 (A := 0) (B := A.2.1.2.1 kn) ⟨c86.1, c86.2.1⟩
                have eim := nI_i (n := im) (by omega)
                obtain ⟨jm, j0, j9, rfl⟩ := rng_nat2 (A := 0) (B := A.2.1.2.1 on) ⟨c98.1, c98.2.1⟩
                have ejm := nI_i (n := jm) (by omega)
                obtain ⟨nm, n0, n9, rfl⟩ := rng_nat2 (A := 0) (B := A.2.1.2.1 kn) ⟨c86.2.2.1, by have := c86.2.2.2; omega⟩
                have enm := nI_i (n := nm) (by omega)
                have hb1 := c86.2.2.2
                have hb2 := c98.2.2.2
                rw [eim, enm] at hb1
                rw [ejm, enm] at hb2
                have tni := tn_nI (n := im) (by omega)
                have tnj := tn_nI (n := jm) (by omega)
                have tnn := tn_nI (n := nm) (by omega)
                refine J_aload C dX5_copy_107 rfl ?_
                refine G3_cells hkn C wd_22_15 dX5_copy_109 ?_
                refine J_iload_n C dX5_copy_112 rfl rfl ?_
                refine J_aload C dX5_copy_113 rfl ?_
                refine G3_cells hon C wd_22_15 dX5_copy_115 ?_
                refine J_iload C dX5_copy_118 rfl ?_
                refine J_iload C dX5_copy_120 rfl ?_
                refine J_copy C hkn hon (by omega) (by omega) wd_34_5 wd_34_6 wd_34_7 wd_34_8 (Nat.le_of_ble_eq_true rfl) (Nat.le_of_ble_eq_true rfl) dX5_copy_122 ?_
                refine J_iload C dX5_copy_125 rfl ?_
                exact E dX5_copy_127 (⟨by rw [R_copy, if_pos c9, if_pos c16, tnk, tno, if_neg c42, if_neg c50, if_pos (show A.2.1.1 kn = A.2.1.1 on by omega), if_pos c86, if_pos c98] <;> first | rfl | decide, by rw [N_copy, if_pos c9, if_pos c16, tnk, tno, if_neg c42, if_neg c50, if_pos (show A.2.1.1 kn = A.2.1.1 on by omega), if_pos c86, if_pos c98]; first | exact hAz | (simp only [tni, tnj, tnn]; exact absC_copy hAz hkn hon c42 (show im + nm ≤ A.2.1.2.1 kn by omega) (show jm + nm ≤ A.2.1.2.1 on by omega))⟩)
              · skip
                refine J_aload_n C dX5_copy_101 rfl rfl ?_
                refine J_iconst C (v := nI 3) dX5_copy_102 (by decide) ?_
                refine J_callVi C (q0 := 0) (ci := 5) (N := 8) (As := [.int (nI 3)]) (c_X5_faulted l Z _ (AsF A (nI 0)) hAz hk _) cw_RX5_64 wd_5_15 wd_5_16 rfl rfl rfl rfl (Nat.le_of_ble_eq_true rfl) rfl rfl (Nat.le_of_ble_eq_true rfl) (Nat.le_of_ble_eq_true rfl) dX5_copy_103 (fun r103 x103 hp103 => ?_)
                obtain ⟨rfl, hA103⟩ := hp103
                obtain ⟨⟨hcur103, htr103, hne103, hr103o⟩, hH103o, hR103o, hT103, hF103⟩ := id hA103
                first | have hr103 : ShR x103 x103.2.2.1 A.1 := hr103o | have hr103 := hr103o
                first | have hH103 : CH x103 A.2.1 := hH103o | have hH103 := hH103o
                first | have hR103 : CR x103 A.2.2.1 := hR103o | have hR103 := hR103o
                exact E dX5_copy_106 (⟨by rw [R_copy, if_pos c9, if_pos c16, tnk, tno, if_neg c42, if_neg c50, if_pos (show A.2.1.1 kn = A.2.1.1 on by omega), if_pos c86, if_neg c98] <;> first | rfl | decide, by rw [N_copy, if_pos c9, if_pos c16, tnk, tno, if_neg c42, if_neg c50, if_pos (show A.2.1.1 kn = A.2.1.1 on by omega), if_pos c86, if_neg c98]; first | exact hA103 | (simp only [tni, tnj, tnn]; exact absC_copy hAz hkn hon c42 (show im + nm ≤ A.2.1.2.1 kn by omega) (show jm + nm ≤ A.2.1.2.1 on by omega))⟩)
          · skip
            refine J_aload_n C dX5_copy_72 rfl rfl ?_
            refine J_iconst C (v := nI 2) dX5_copy_73 (by decide) ?_
            refine J_callVi C (q0 := 0) (ci := 5) (N := 8) (As := [.int (nI 2)]) (c_X5_faulted l Z _ (AsF A (nI 0)) hAz hk _) cw_RX5_64 wd_5_15 wd_5_16 rfl rfl rfl rfl (Nat.le_of_ble_eq_true rfl) rfl rfl (Nat.le_of_ble_eq_true rfl) (Nat.le_of_ble_eq_true rfl) dX5_copy_74 (fun r74 x74 hp74 => ?_)
            obtain ⟨rfl, hA74⟩ := hp74
            obtain ⟨⟨hcur74, htr74, hne74, hr74o⟩, hH74o, hR74o, hT74, hF74⟩ := id hA74
            first | have hr74 : ShR x74 x74.2.2.1 A.1 := hr74o | have hr74 := hr74o
            first | have hH74 : CH x74 A.2.1 := hH74o | have hH74 := hH74o
            first | have hR74 : CR x74 A.2.2.1 := hR74o | have hR74 := hR74o
            exact E dX5_copy_77 (⟨by rw [R_copy, if_pos c9, if_pos c16, tnk, tno, if_neg c42, if_neg c50, if_neg (show ¬ A.2.1.1 kn = A.2.1.1 on by omega)] <;> first | rfl | decide, by rw [N_copy, if_pos c9, if_pos c16, tnk, tno, if_neg c42, if_neg c50, if_neg (show ¬ A.2.1.1 kn = A.2.1.1 on by omega)]; first | exact hA74 | (simp only [tni, tnj, tnn]; exact absC_copy hAz hkn hon c42 (show im + nm ≤ A.2.1.2.1 kn by omega) (show jm + nm ≤ A.2.1.2.1 on by omega))⟩)
        · skip
          refine J_aload_n C dX5_copy_53 rfl rfl ?_
          refine J_iconst C (v := nI 1) dX5_copy_54 (by decide) ?_
          refine J_callVi C (q0 := 0) (ci := 5) (N := 8) (As := [.int (nI 1)]) (c_X5_faulted l Z _ (AsF A (nI 0)) hAz hk _) cw_RX5_64 wd_5_15 wd_5_16 rfl rfl rfl rfl (Nat.le_of_ble_eq_true rfl) rfl rfl (Nat.le_of_ble_eq_true rfl) (Nat.le_of_ble_eq_true rfl) dX5_copy_55 (fun r55 x55 hp55 => ?_)
          obtain ⟨rfl, hA55⟩ := hp55
          obtain ⟨⟨hcur55, htr55, hne55, hr55o⟩, hH55o, hR55o, hT55, hF55⟩ := id hA55
          first | have hr55 : ShR x55 x55.2.2.1 A.1 := hr55o | have hr55 := hr55o
          first | have hH55 : CH x55 A.2.1 := hH55o | have hH55 := hH55o
          first | have hR55 : CR x55 A.2.2.1 := hR55o | have hR55 := hR55o
          exact E dX5_copy_58 (⟨by rw [R_copy, if_pos c9, if_pos c16, tnk, tno, if_neg c42, if_pos (nn0 c50)] <;> first | rfl | decide, by rw [N_copy, if_pos c9, if_pos c16, tnk, tno, if_neg c42, if_pos (nn0 c50)]; first | exact hA55 | (simp only [tni, tnj, tnn]; exact absC_copy hAz hkn hon c42 (show im + nm ≤ A.2.1.2.1 kn by omega) (show jm + nm ≤ A.2.1.2.1 on by omega))⟩)
    · skip
      refine J_iconst C (v := (-1)) dX5_copy_19 (by decide) ?_
      exact E dX5_copy_20 (⟨by rw [R_copy, if_pos c9, if_neg c16] <;> first | rfl | decide, by rw [N_copy, if_pos c9, if_neg c16]; first | exact hAz | (simp only [tni, tnj, tnn]; exact absC_copy hAz hkn hon c42 (show im + nm ≤ A.2.1.2.1 kn by omega) (show jm + nm ≤ A.2.1.2.1 on by omega))⟩)
def rm_X3_areWithin : Room := ({ frames := 1, cells := 0, slots := 0, locals := 22 })
set_option maxRecDepth 20000 in
theorem c_X3_areWithin (l : Launch) (Z : EC) (x : St) {k : Nat} (hk : k < 4) (i n t : Nat) (hin : i + n ≤ 60) (ht : t < 1000) (fc : Nat → Int32) (hfc : ∀ j, j < n → x.2.1 (6 + k) (i + j) = fc (i + j)) : MIz l Z (wC Z) yX3_areWithin cX3_areWithin 5 rm_X3_areWithin [.ref (Z.2.1 (2 + k)), .int (nI i), .int (nI n), .int (nI t)] x (fun b x1 => b = decide (okC fc i n t) ∧ x = x1) := by
  refine MIz_of (own := RX3) (L0 := [some (.ref (Z.2.1 (2 + k))), some (.int (nI i)), some (.int (nI n)), some (.int (nI t)), none]) (by decide) rfl (Nat.le_of_ble_eq_true rfl) ⟨rfl, rfl, rfl, rfl, trivial⟩ ?_
  intro Γ C E
  refine J_iconst C (v := nI 0) dX3_areWithin_0 (by decide) ?_
  refine J_istore C (L' := [some (.ref (Z.2.1 (2 + k))), some (.int (nI i)), some (.int (nI n)), some (.int (nI t)), some (.int (nI 0))]) dX3_areWithin_1 (by decide) rfl rfl ?_
  have lp3 : ∀ (f : Nat) (j : Nat), (j ≤ n) → (okC fc i j t) → (n - j < f) →  J Γ x 3 [some (.ref (Z.2.1 (2 + k))), some (.int (nI i)), some (.int (nI n)), some (.int (nI t)), some (.int (nI j))] [] := by
    intro f
    induction f with
    | zero =>
      intro j hj hv hf
      omega
    | succ f ih3 =>
      intro j hj hv hf
      refine J_iload C dX3_areWithin_3 rfl ?_
      refine J_iload_n C dX3_areWithin_5 rfl rfl ?_
      refine J_icmp_ge_n C (tgt := 34) dX3_areWithin_6 (by decide) (by omega) (by omega) (fun c6 => ?_) (fun c6 => ?_)
      · skip
        refine J_iconst C (v := nI 1) dX3_areWithin_34 (by decide) ?_
        exact E (b := true) dX3_areWithin_35 (⟨(decide_eq_true ((show j = n by omega) ▸ hv)).symm, rfl⟩)
      · skip
        refine J_aload_n C dX3_areWithin_9 rfl rfl ?_
        refine G3_cells hk C wd_2_13 dX3_areWithin_10 ?_
        refine J_iload_n C dX3_areWithin_13 rfl rfl ?_
        refine J_iload C dX3_areWithin_14 rfl ?_
        refine J_iadd C (v := nI (i + j)) dX3_areWithin_16 (nI_add _ _) ?_
        refine L_cells hk C (v := fc (i + j)) (by omega) (hfc j (by omega)) dX3_areWithin_17 ?_
        refine J_iconst C (v := nI 0) dX3_areWithin_18 (by decide) ?_
        refine J_iload_n C dX3_areWithin_19 rfl rfl ?_
        refine J_callNz C (As := [.int (fc (i + j)), .int (nI 0), .int (nI t)]) (c_X5_isWithin l Z _ _ _ _ (0) (t : Int) (by decide) (nI_i (by omega))) cw_RX3_26 wd_4_23 rfl rfl (Nat.le_of_ble_eq_true rfl) rfl rfl (Nat.le_of_ble_eq_true rfl) (Nat.le_of_ble_eq_true rfl) dX3_areWithin_20 (fun b20 x20 hp20 => ?_)
        obtain ⟨rfl, rfl⟩ := hp20
        refine J_if_ne_d C (tgt := 28) dX3_areWithin_23 (by decide) (fun c23 => ?_) (fun c23 => ?_)
        · skip
          refine J_iinc C (v := nI (j + 1)) (L' := [some (.ref (Z.2.1 (2 + k))), some (.int (nI i)), some (.int (nI n)), some (.int (nI t)), some (.int (nI (j + 1)))]) dX3_areWithin_28 rfl (nI_1 _) (by decide) rfl rfl ?_
          refine J_goto (tgt := 3) C dX3_areWithin_31 (by decide) ?_
          refine J_drop ?_ (ih3 (j + 1) (by omega) (fun q hq => by by_cases e : q = j; (rw [e]; exact c23); (exact hv q (by omega))) (by omega))
          exact ⟨rfl, rfl, rfl, rfl, rfl, trivial⟩
        · skip
          refine J_iconst C (v := nI 0) dX3_areWithin_26 (by decide) ?_
          exact E (b := false) dX3_areWithin_27 (⟨(decide_eq_false (fun h => c23 (h j (by omega)))).symm, rfl⟩)
  refine J_drop ?_ (lp3 (n + 1) 0 (by omega) (fun j hj => absurd hj (Nat.not_lt_zero j)) (by omega))
  exact ⟨rfl, rfl, rfl, rfl, rfl, trivial⟩
def rm_X5_refusalOfRow : Room := ({ frames := 3, cells := 0, slots := 0, locals := 67 })
set_option maxRecDepth 20000 in
theorem c_X5_refusalOfRow (l : Launch) (Z : EC) (x : St) (A : AB) (hA : AbsC x A) (hk : AOK A) (k la i n : Int32) (b : Bool) : MIi l Z (wC Z) yX5_refusalOfRow cX5_refusalOfRow 7 rm_X5_refusalOfRow [.ref (Z.2.1 0), .int k, .int la, .int i, .int n, .int (b2i b)] x (fun r x1 => (¬ hB k ∧ r = (-1) ∧ AbsC x1 (AsF A 0)) ∨ (hB k ∧ ¬ lB la ∧ r = (-2) ∧ AbsC x1 (AsF A 0)) ∨ (hB k ∧ lB la ∧ ¬ inB n 0 20 ∧ r = (-2) ∧ AbsC x1 (AsF A 0)) ∨ (hB k ∧ lB la ∧ inB n 0 20 ∧ b = false ∧ r = (-2) ∧ AbsC x1 (AsF A 0)) ∨ (hB k ∧ lB la ∧ inB n 0 20 ∧ b = true ∧ ¬ rowF A.2.1 (tn k) la i n = 0 ∧ r = (-10) - nI (rowF A.2.1 (tn k) la i n) ∧ AbsC x1 (AsF A (nI (rowF A.2.1 (tn k) la i n)))) ∨ (hB k ∧ lB la ∧ inB n 0 20 ∧ b = true ∧ rowF A.2.1 (tn k) la i n = 0 ∧ A.1.1 3 = 0 ∧ r = (-3) ∧ AbsC x1 (AsF A (nI (rowF A.2.1 (tn k) la i n)))) ∨ (hB k ∧ lB la ∧ inB n 0 20 ∧ b = true ∧ rowF A.2.1 (tn k) la i n = 0 ∧ ¬ A.1.1 3 = 0 ∧ r = nI 0 ∧ AbsC x1 (AsF A (nI (rowF A.2.1 (tn k) la i n))))) := by
  obtain ⟨⟨hcur, htr, hne, hr⟩, hH, hR, hT, hF⟩ := id hA
  obtain ⟨ok, hkH, hkR, hkr⟩ := id hk
  obtain ⟨ok0, ok1, ok2, ok3, ok4, ok5, ok6, ok7⟩ := id ok
  refine MIi_of (own := RX5) (L0 := [some (.ref (Z.2.1 0)), some (.int k), some (.int la), some (.int i), some (.int n), some (.int (b2i b)), none]) (by decide) rfl (Nat.le_of_ble_eq_true rfl) ⟨rfl, rfl, rfl, rfl, rfl, rfl, trivial⟩ ?_
  intro Γ C E
  refine J_aload_n C dX5_refusalOfRow_0 rfl rfl ?_
  refine J_iconst C (v := nI 0) dX5_refusalOfRow_1 (by decide) ?_
  refine P5_latestFault C wd_4_16 dX5_refusalOfRow_2 ?_
  have hAz := absC_F (v := nI 0) hA
  generalize setI x 1 (nI 0) = x0 at hAz ⊢
  obtain ⟨⟨hcur2, htr2, hne2, hr2o⟩, hH2o, hR2o, hT2, hF2⟩ := id hAz
  first | have hr2 : ShR x0 x0.2.2.1 A.1 := hr2o | have hr2 := hr2o
  first | have hH2 : CH x0 A.2.1 := hH2o | have hH2 := hH2o
  first | have hR2 : CR x0 A.2.2.1 := hR2o | have hR2 := hR2o
  refine J_iload_n C dX5_refusalOfRow_5 rfl rfl ?_
  refine J_callSz C (As := [.int k]) (c_X5_isSheet l Z _ _) cw_RX5_53 wd_4_20 rfl rfl (Nat.le_of_ble_eq_true rfl) rfl rfl (Nat.le_of_ble_eq_true rfl) (Nat.le_of_ble_eq_true rfl) dX5_refusalOfRow_6 (fun b6 x6 hp6 => ?_)
  obtain ⟨rfl, rfl⟩ := hp6
  refine J_if_ne_d C (tgt := 14) dX5_refusalOfRow_9 (by decide) (fun c9 => ?_) (fun c9 => ?_)
  · skip
    obtain ⟨kn, k0, k3, rfl⟩ := rng_nat2 (A := 0) (B := 3) c9
    have hkn : kn < 4 := by omega
    have tnk := tn_nI (n := kn) (by omega)
    have gk := hkH kn hkn
    refine J_iload_n C dX5_refusalOfRow_14 rfl rfl ?_
    refine J_callSz C (As := [.int la]) (c_X5_isLane l Z _ _) cw_RX5_57 wd_5_2 rfl rfl (Nat.le_of_ble_eq_true rfl) rfl rfl (Nat.le_of_ble_eq_true rfl) (Nat.le_of_ble_eq_true rfl) dX5_refusalOfRow_15 (fun b15 x15 hp15 => ?_)
    obtain ⟨rfl, rfl⟩ := hp15
    refine J_if_eq_d C (tgt := 37) dX5_refusalOfRow_18 (by decide) (fun c18 => ?_) (fun c18 => ?_)
    · skip
      refine J_bipush C (v := (-2)) dX5_refusalOfRow_37 (by decide) ?_
      exact E dX5_refusalOfRow_39 (Or.inr (Or.inl ⟨c9, c18, rfl, hAz⟩))
    · skip
      refine J_iload C dX5_refusalOfRow_21 rfl ?_
      refine J_iconst C (v := nI 0) dX5_refusalOfRow_23 (by decide) ?_
      refine J_bipush C (v := nI 20) dX5_refusalOfRow_24 (by decide) ?_
      refine J_callSz C (As := [.int n, .int (nI 0), .int (nI 20)]) (c_X5_isWithin l Z _ _ _ _ (0) (20) (by decide) (by decide)) cw_RX5_120 wd_4_23 rfl rfl (Nat.le_of_ble_eq_true rfl) rfl rfl (Nat.le_of_ble_eq_true rfl) (Nat.le_of_ble_eq_true rfl) dX5_refusalOfRow_26 (fun b26 x26 hp26 => ?_)
      obtain ⟨rfl, rfl⟩ := hp26
      refine J_if_eq_d C (tgt := 37) dX5_refusalOfRow_29 (by decide) (fun c29 => ?_) (fun c29 => ?_)
      · skip
        refine J_bipush C (v := (-2)) dX5_refusalOfRow_37 (by decide) ?_
        exact E dX5_refusalOfRow_39 (Or.inr (Or.inr (Or.inl ⟨c9, c18, c29, rfl, hAz⟩)))
      · skip
        refine J_iload C dX5_refusalOfRow_32 rfl ?_
        refine J_if_ne_b C (tgt := 40) dX5_refusalOfRow_34 (by decide) (fun c34 => ?_) (fun c34 => ?_)
        · skip
          refine J_aload_n C dX5_refusalOfRow_40 rfl rfl ?_
          refine G5_sheets C wd_1_13 dX5_refusalOfRow_41 ?_
          refine J_iload_n C dX5_refusalOfRow_44 rfl rfl ?_
          refine L_sheets C hkn dX5_refusalOfRow_45 ?_
          refine J_iload_n C dX5_refusalOfRow_46 rfl rfl ?_
          refine J_iload_n C dX5_refusalOfRow_47 rfl rfl ?_
          refine J_iload C dX5_refusalOfRow_48 rfl ?_
          refine J_callSi C (As := [.ref (Z.2.1 (2 + kn)), .int la, .int i, .int n]) (c_X5_rowFault l Z _ hkn A.2.1 hH2 gk.2 _ _ _) cw_RX5_60 wd_5_5 rfl rfl (Nat.le_of_ble_eq_true rfl) rfl rfl (Nat.le_of_ble_eq_true rfl) (Nat.le_of_ble_eq_true rfl) dX5_refusalOfRow_50 (fun r50 x50 hp50 => ?_)
          obtain ⟨rfl, rfl⟩ := hp50
          refine J_istore C (L' := [some (.ref (Z.2.1 0)), some (.int (nI kn)), some (.int la), some (.int i), some (.int n), some (.int (b2i b)), some (.int (nI (rowF A.2.1 kn la i n)))]) dX5_refusalOfRow_53 (by decide) rfl rfl ?_
          refine J_iload C dX5_refusalOfRow_55 rfl ?_
          have hrl := rowF_le A.2.1 kn la i n
          refine J_if_eq_n C (tgt := 67) dX5_refusalOfRow_57 (by decide) (by omega) (fun c57 => ?_) (fun c57 => ?_)
          · skip
            refine J_aload_n C dX5_refusalOfRow_67 rfl rfl ?_
            refine J_callVz C (q0 := 0) (ci := 5) (N := 8) (As := []) (c_X5_hasShore l Z _ A.1 hAz.1 ok) cw_RX5_254 wd_15_13 wd_15_14 rfl rfl rfl rfl (Nat.le_of_ble_eq_true rfl) rfl rfl (Nat.le_of_ble_eq_true rfl) (Nat.le_of_ble_eq_true rfl) dX5_refusalOfRow_68 (fun b68 x68 hp68 => ?_)
            obtain ⟨rfl, rfl⟩ := hp68
            refine J_if_eq_d C (tgt := 78) dX5_refusalOfRow_71 (by decide) (fun c71 => ?_) (fun c71 => ?_)
            · skip
              refine J_bipush C (v := (-3)) dX5_refusalOfRow_78 (by decide) ?_
              exact E dX5_refusalOfRow_80 (Or.inr (Or.inr (Or.inr (Or.inr (Or.inr (Or.inl ⟨c9, c18, c29, c34, by rw [tnk]; exact c57, by omega, rfl, by rw [tnk, c57]; exact hAz⟩))))))
            · skip
              refine J_iconst C (v := nI 0) dX5_refusalOfRow_74 (by decide) ?_
              refine J_goto (tgt := 80) C dX5_refusalOfRow_75 (by decide) ?_
              exact E dX5_refusalOfRow_80 (Or.inr (Or.inr (Or.inr (Or.inr (Or.inr (Or.inr ⟨c9, c18, c29, c34, by rw [tnk]; exact c57, by omega, rfl, by rw [tnk, c57]; exact hAz⟩))))))
          · skip
            refine J_aload_n C dX5_refusalOfRow_60 rfl rfl ?_
            refine J_iload C dX5_refusalOfRow_61 rfl ?_
            refine J_callVi C (q0 := 0) (ci := 5) (N := 8) (As := [.int (nI (rowF A.2.1 kn la i n))]) (c_X5_faulted l Z _ (AsF A (nI 0)) hAz hk _) cw_RX5_64 wd_5_15 wd_5_16 rfl rfl rfl rfl (Nat.le_of_ble_eq_true rfl) rfl rfl (Nat.le_of_ble_eq_true rfl) (Nat.le_of_ble_eq_true rfl) dX5_refusalOfRow_63 (fun r63 x63 hp63 => ?_)
            obtain ⟨rfl, hA63⟩ := hp63
            obtain ⟨⟨hcur63, htr63, hne63, hr63o⟩, hH63o, hR63o, hT63, hF63⟩ := id hA63
            first | have hr63 : ShR x63 x63.2.2.1 A.1 := hr63o | have hr63 := hr63o
            first | have hH63 : CH x63 A.2.1 := hH63o | have hH63 := hH63o
            first | have hR63 : CR x63 A.2.2.1 := hR63o | have hR63 := hR63o
            exact E dX5_refusalOfRow_66 (Or.inr (Or.inr (Or.inr (Or.inr (Or.inl ⟨c9, c18, c29, c34, by rw [tnk]; exact c57, by rw [tnk], by rw [tnk]; exact hA63⟩)))))
        · skip
          refine J_bipush C (v := (-2)) dX5_refusalOfRow_37 (by decide) ?_
          exact E dX5_refusalOfRow_39 (Or.inr (Or.inr (Or.inr (Or.inl ⟨c9, c18, c29, c34, rfl, hAz⟩))))
  · skip
    refine J_iconst C (v := (-1)) dX5_refusalOfRow_12 (by decide) ?_
    exact E dX5_refusalOfRow_13 (Or.inl ⟨c9, rfl, hAz⟩)
def rm_X5_firstWrong : Room := ({ frames := 2, cells := 0, slots := 0, locals := 45 })
set_option maxRecDepth 20000 in
theorem c_X5_firstWrong (l : Launch) (Z : EC) (x : St) (a : SA) (hs : CS x a) (ok : SOK a) (k i n : Nat) (hk4 : k < 4) (hin : i + n ≤ 60) (g : Nat → Nat) (hg : ∀ j, j < n → x.2.1 (6 + k) (i + j) = nI (g j) ∧ g j ≤ 9)  : MIi l Z (wC Z) yX5_firstWrong cX5_firstWrong 5 rm_X5_firstWrong [.ref (Z.2.1 0), .ref (Z.2.1 (2 + k)), .int (nI i), .int (nI n)] x (fun r x1 => r = wrT a g n ∧ x = x1) := by
  obtain ⟨ok0, ok1, ok2, ok3, ok4, ok5, ok6, ok7⟩ := id ok
  refine MIi_of (own := RX5) (L0 := [some (.ref (Z.2.1 0)), some (.ref (Z.2.1 (2 + k))), some (.int (nI i)), some (.int (nI n)), none]) (by decide) rfl (Nat.le_of_ble_eq_true rfl) ⟨rfl, rfl, rfl, rfl, trivial⟩ ?_
  intro Γ C E
  refine J_iconst C (v := nI 0) dX5_firstWrong_0 (by decide) ?_
  refine J_istore C (L' := [some (.ref (Z.2.1 0)), some (.ref (Z.2.1 (2 + k))), some (.int (nI i)), some (.int (nI n)), some (.int (nI 0))]) dX5_firstWrong_1 (by decide) rfl rfl ?_
  have lp3 : ∀ (f : Nat) (j : Nat), (j ≤ n) → (¬ fwr a g j < j) → (n - j < f) →  J Γ x 3 [some (.ref (Z.2.1 0)), some (.ref (Z.2.1 (2 + k))), some (.int (nI i)), some (.int (nI n)), some (.int (nI j))] [] := by
    intro f
    induction f with
    | zero =>
      intro j hj hv hf
      omega
    | succ f ih3 =>
      intro j hj hv hf
      refine J_iload C dX5_firstWrong_3 rfl ?_
      refine J_iload_n C dX5_firstWrong_5 rfl rfl ?_
      refine J_icmp_ge_n C (tgt := 37) dX5_firstWrong_6 (by decide) (by omega) (by omega) (fun c6 => ?_) (fun c6 => ?_)
      · skip
        refine J_bipush C (v := (-9)) dX5_firstWrong_37 (by decide) ?_
        exact E dX5_firstWrong_39 (⟨by rw [wrT, if_neg ((show j = n by omega) ▸ hv)], rfl⟩)
      · skip
        have hgj := hg j (by omega)
        refine J_aload_n C dX5_firstWrong_9 rfl rfl ?_
        refine G5_shore C wd_2_7 dX5_firstWrong_10 ?_
        refine J_aload_n C dX5_firstWrong_13 rfl rfl ?_
        refine G3_cells hk4 C wd_22_15 dX5_firstWrong_14 ?_
        refine J_iload_n C dX5_firstWrong_17 rfl rfl ?_
        refine J_iload C dX5_firstWrong_18 rfl ?_
        refine J_iadd C (v := nI (i + j)) dX5_firstWrong_20 (nI_add _ _) ?_
        refine L_cells hk4 C (v := nI (g j)) (by omega) (hgj.1) dX5_firstWrong_21 ?_
        refine J_callVi C (N := 10) (As := [.int (nI (g j))]) (c_X4_washedBy l Z _ hs.1 hs.2.2.2 ok _ (by omega)) cw_RX5_140 wd_16_19 wd_16_20 (at_shore hs.1) rfl rfl rfl (Nat.le_of_ble_eq_true rfl) rfl rfl (Nat.le_of_ble_eq_true rfl) (Nat.le_of_ble_eq_true rfl) dX5_firstWrong_22 (fun r22 x22 hp22 => ?_)
        obtain ⟨rfl, rfl⟩ := hp22
        have hwt : wet a (g j) < 64 := bits64 _ ok3
        refine J_if_ne_n C (tgt := 31) dX5_firstWrong_25 (by decide) (by omega) (fun c25 => ?_) (fun c25 => ?_)
        · skip
          refine J_iinc C (v := nI (j + 1)) (L' := [some (.ref (Z.2.1 0)), some (.ref (Z.2.1 (2 + k))), some (.int (nI i)), some (.int (nI n)), some (.int (nI (j + 1)))]) dX5_firstWrong_31 rfl (nI_1 _) (by decide) rfl rfl ?_
          refine J_goto (tgt := 3) C dX5_firstWrong_34 (by decide) ?_
          refine J_drop ?_ (ih3 (j + 1) (by omega) (fwr_go hv c25) (by omega))
          exact ⟨rfl, rfl, rfl, rfl, rfl, trivial⟩
        · skip
          refine J_iload C dX5_firstWrong_28 rfl ?_
          exact E dX5_firstWrong_30 (⟨by rw [wrT, fwr_stop hv c25 (by omega), if_pos (by omega)], rfl⟩)
  refine J_drop ?_ (lp3 (n + 1) 0 (by omega) (Nat.not_lt_zero _) (by omega))
  exact ⟨rfl, rfl, rfl, rfl, rfl, trivial⟩
def rm_X5_endOfYear : Room := ({ frames := 3, cells := 0, slots := 0, locals := 68 })
set_option maxRecDepth 20000 in
theorem c_X5_endOfYear (l : Launch) (Z : EC) (x : St) (A : AB) (hA : AbsC x A) (hk : AOK A) {b : SA} (hbr : ShR x x.2.2.2.1 b) (okb : SOK b) (hb1 : b.1 = A.1.1) (hP : 0 < b.1 3) (w : Int32) (hw : yB w) (h0 : ¬ w = nI 0) (h1 : ¬ w = nI 1) : MIi l Z (wC Z) yX5_endOfYear cX5_endOfYear 3 rm_X5_endOfYear [.ref (Z.2.1 0), .int w] x (fun r x1 => r = endT b w ∧ x = x1) := by
  obtain ⟨⟨hcur, htr, hne, hr⟩, hH, hR, hT, hF⟩ := id hA
  obtain ⟨ok, hkH, hkR, hkr⟩ := id hk
  obtain ⟨ok0, ok1, ok2, ok3, ok4, ok5, ok6, ok7⟩ := id ok
  refine MIi_of (own := RX5) (L0 := [some (.ref (Z.2.1 0)), some (.int w), none]) (by decide) rfl (Nat.le_of_ble_eq_true rfl) ⟨rfl, rfl, trivial⟩ ?_
  intro Γ C E
  refine J_iload_n C dX5_endOfYear_0 rfl rfl ?_
  refine J_iconst C (v := nI 2) dX5_endOfYear_1 (by decide) ?_
  refine J_icmp_ne C (tgt := 13) dX5_endOfYear_2 (by decide) (fun c2 => ?_) (fun c2 => ?_)
  · skip
    refine J_iload_n C dX5_endOfYear_13 rfl rfl ?_
    refine J_iconst C (v := nI 3) dX5_endOfYear_14 (by decide) ?_
    refine J_icmp_ne C (tgt := 26) dX5_endOfYear_15 (by decide) (fun c15 => ?_) (fun c15 => ?_)
    · skip
      refine J_iload_n C dX5_endOfYear_26 rfl rfl ?_
      refine J_bipush C (v := nI 20) dX5_endOfYear_27 (by decide) ?_
      refine J_icmp_lt C (tgt := 54) dX5_endOfYear_29 (by decide) (fun c29 => ?_) (fun c29 => ?_)
      · skip
        obtain ⟨wn, w0, w9, rfl⟩ := rng_nat2 (A := 10) (B := 15) (w1015 hw h0 h1 c2 c15 (lt20 c29))
        have tnw := tn_nI (n := wn) (by omega)
        have emn := nI_i (n := wn - 10) (by omega)
        have hb4 := congrFun hb1 4
        refine J_iload_n C dX5_endOfYear_54 rfl rfl ?_
        refine J_bipush C (v := nI 10) dX5_endOfYear_55 (by decide) ?_
        refine J_isub C (v := nI (wn - 10)) dX5_endOfYear_57 (pk_sub (a := wn) (b := 10) (by omega)) ?_
        refine J_istore_n C (L' := [some (.ref (Z.2.1 0)), some (.int (nI wn)), some (.int (nI (wn - 10)))]) dX5_endOfYear_58 rfl (by decide) rfl rfl ?_
        refine J_aload_n C dX5_endOfYear_59 rfl rfl ?_
        refine J_iload_n C dX5_endOfYear_60 rfl rfl ?_
        refine J_callVz C (q0 := 0) (ci := 5) (N := 8) (As := [.int (nI (wn - 10))]) (c_X5_isMember l Z _ A.1 hA.1 ok _) cw_RX5_105 wd_13_2 wd_13_3 rfl rfl rfl rfl (Nat.le_of_ble_eq_true rfl) rfl rfl (Nat.le_of_ble_eq_true rfl) (Nat.le_of_ble_eq_true rfl) dX5_endOfYear_61 (fun b61 x61 hp61 => ?_)
        obtain ⟨rfl, rfl⟩ := hp61
        refine J_if_eq_d C (tgt := 79) dX5_endOfYear_64 (by decide) (fun c64 => ?_) (fun c64 => ?_)
        · skip
          refine J_bipush C (v := (-9)) dX5_endOfYear_79 (by decide) ?_
          exact E dX5_endOfYear_81 (⟨by rw [endT, if_neg c2, if_neg c15, if_neg (lt20 c29), tnw, if_neg (fun h => c64 (by unfold mB; rw [emn, ← hb4]; omega))], rfl⟩)
        · skip
          have c64n : wn - 10 < b.1 4 := by unfold mB at c64; rw [emn, ← hb4] at c64; omega
          have gb := okb.2.2.2.2.2.2.1 (wn - 10) c64n
          refine J_aload_n C dX5_endOfYear_67 rfl rfl ?_
          refine G5_trial C wd_2_8 dX5_endOfYear_68 ?_
          refine G4_seats htr C wd_12_23 dX5_endOfYear_71 ?_
          refine J_iload_n C dX5_endOfYear_74 rfl rfl ?_
          refine L4n_seats htr hbr okb C (by omega) dX5_endOfYear_75 ?_
          refine J_goto (tgt := 81) C dX5_endOfYear_76 (by decide) ?_
          exact E dX5_endOfYear_81 (⟨by rw [endT, if_neg c2, if_neg c15, if_neg (lt20 c29), tnw, if_pos c64n], rfl⟩)
      · skip
        obtain ⟨wn, w0, w9, rfl⟩ := rng_nat2 (q := w) (A := 20) (B := 29) (by have := ge20 c29; unfold yB at hw; omega)
        have tnw := tn_nI (n := wn) (by omega)
        refine J_aload_n C dX5_endOfYear_32 rfl rfl ?_
        refine G5_trial C wd_2_8 dX5_endOfYear_33 ?_
        refine J_aload_n C dX5_endOfYear_36 rfl rfl ?_
        refine G5_trial C wd_2_8 dX5_endOfYear_37 ?_
        refine J_iload_n C dX5_endOfYear_40 rfl rfl ?_
        refine J_bipush C (v := nI 20) dX5_endOfYear_41 (by decide) ?_
        refine J_isub C (v := nI (wn - 20)) dX5_endOfYear_43 (pk_sub (a := wn) (b := 20) (by omega)) ?_
        refine J_callVi C (N := 10) (As := [.int (nI (wn - 20))]) (c_X4_friendsOf l Z _ htr hbr okb _ (by omega)) cw_RX5_150 wd_19_11 wd_19_12 (at_shore htr) rfl rfl rfl (Nat.le_of_ble_eq_true rfl) rfl rfl (Nat.le_of_ble_eq_true rfl) (Nat.le_of_ble_eq_true rfl) dX5_endOfYear_44 (fun r44 x44 hp44 => ?_)
        obtain ⟨rfl, rfl⟩ := hp44
        refine J_callVz C (N := 10) (As := [.int (nI (fri b (wn - 20)))]) (c_X4_isLawBy l Z _ htr hbr okb _ (fri64 okb _)) cw_RX5_156 wd_20_23 wd_21_0 (at_shore htr) rfl rfl rfl (Nat.le_of_ble_eq_true rfl) rfl rfl (Nat.le_of_ble_eq_true rfl) (Nat.le_of_ble_eq_true rfl) dX5_endOfYear_47 (fun b47 x47 hp47 => ?_)
        obtain ⟨rfl, rfl⟩ := hp47
        refine J_callSi C (As := [.int (b2i (isLaw b (fri b (wn - 20))))]) (c_X5_oneIf l Z _ _ (b2i_01 _)) cw_RX5_159 wd_18_20 rfl rfl (Nat.le_of_ble_eq_true rfl) rfl rfl (Nat.le_of_ble_eq_true rfl) (Nat.le_of_ble_eq_true rfl) dX5_endOfYear_50 (fun r50 x50 hp50 => ?_)
        obtain ⟨rfl, rfl⟩ := hp50
        exact E dX5_endOfYear_53 (⟨by rw [endT, if_neg c2, if_neg c15, if_pos (ge20 c29), tnw], rfl⟩)
    · skip
      refine J_aload_n C dX5_endOfYear_18 rfl rfl ?_
      refine G5_trial C wd_2_8 dX5_endOfYear_19 ?_
      refine J_callVi C (N := 10) (As := []) (c_X4_fullestPool l Z _ htr hbr okb hP) cw_RX5_192 wd_23_6 wd_23_7 (at_shore htr) rfl rfl rfl (Nat.le_of_ble_eq_true rfl) rfl rfl (Nat.le_of_ble_eq_true rfl) (Nat.le_of_ble_eq_true rfl) dX5_endOfYear_22 (fun r22 x22 hp22 => ?_)
      obtain ⟨rfl, rfl⟩ := hp22
      exact E dX5_endOfYear_25 (⟨by rw [endT, if_neg c2, if_pos c15], rfl⟩)
  · skip
    refine J_aload_n C dX5_endOfYear_5 rfl rfl ?_
    refine G5_trial C wd_2_8 dX5_endOfYear_6 ?_
    refine J_callVi C (N := 10) (As := []) (c_X4_poolsSatIn l Z _ htr hbr okb) cw_RX5_189 wd_21_4 wd_21_5 (at_shore htr) rfl rfl rfl (Nat.le_of_ble_eq_true rfl) rfl rfl (Nat.le_of_ble_eq_true rfl) (Nat.le_of_ble_eq_true rfl) dX5_endOfYear_9 (fun r9 x9 hp9 => ?_)
    obtain ⟨rfl, rfl⟩ := hp9
    exact E dX5_endOfYear_12 (⟨by rw [endT, if_pos c2], rfl⟩)
def rm_X5_yearTold : Room := ({ frames := 5, cells := 0, slots := 0, locals := 117 })
set_option maxRecDepth 20000 in
theorem c_X5_yearTold (l : Launch) (Z : EC) (x : St) (A : AB) (hA : AbsC x A) (hk : AOK A) (k i n : Nat) (hk4 : k < 4) (hin : i + n ≤ 60) (g : Nat → Nat) (hg : ∀ j, j < n → x.2.1 (6 + k) (i + j) = nI (g j) ∧ g j ≤ 9) (hn20 : n ≤ 20) (hP : 0 < A.1.1 3) (w : Int32) (hw : yB w) : MIi l Z (wC Z) yX5_yearTold cX5_yearTold 8 rm_X5_yearTold [.ref (Z.2.1 0), .ref (Z.2.1 (2 + k)), .int (nI i), .int (nI n), .int w] x (fun r x1 => r = yearT A.1 g n w ∧ AbsC x1 A) := by
  obtain ⟨⟨hcur, htr, hne, hr⟩, hH, hR, hT, hF⟩ := id hA
  obtain ⟨ok, hkH, hkR, hkr⟩ := id hk
  obtain ⟨ok0, ok1, ok2, ok3, ok4, ok5, ok6, ok7⟩ := id ok
  refine MIi_of (own := RX5) (L0 := [some (.ref (Z.2.1 0)), some (.ref (Z.2.1 (2 + k))), some (.int (nI i)), some (.int (nI n)), some (.int w), none, none, none]) (by decide) rfl (Nat.le_of_ble_eq_true rfl) ⟨rfl, rfl, rfl, rfl, rfl, trivial⟩ ?_
  intro Γ C E
  refine J_aload_n C dX5_yearTold_0 rfl rfl ?_
  refine J_aload_n C dX5_yearTold_1 rfl rfl ?_
  refine J_iload_n C dX5_yearTold_2 rfl rfl ?_
  refine J_iload_n C dX5_yearTold_3 rfl rfl ?_
  refine J_callVi C (q0 := 0) (ci := 5) (N := 8) (As := [.ref (Z.2.1 (2 + k)), .int (nI i), .int (nI n)]) (c_X5_firstWrong l Z _ A.1 hA.1 ok _ i n hk4 (by omega) g hg) cw_RX5_175 wd_22_17 wd_22_18 rfl rfl rfl rfl (Nat.le_of_ble_eq_true rfl) rfl rfl (Nat.le_of_ble_eq_true rfl) (Nat.le_of_ble_eq_true rfl) dX5_yearTold_4 (fun r4 x4 hp4 => ?_)
  obtain ⟨rfl, rfl⟩ := hp4
  refine J_istore C (L' := [some (.ref (Z.2.1 0)), some (.ref (Z.2.1 (2 + k))), some (.int (nI i)), some (.int (nI n)), some (.int w), some (.int (wrT A.1 g n)), none, none]) dX5_yearTold_7 (by decide) rfl rfl ?_
  refine J_iload C dX5_yearTold_9 rfl ?_
  refine J_iconst C (v := nI 1) dX5_yearTold_11 (by decide) ?_
  refine J_icmp_ne C (tgt := 18) dX5_yearTold_12 (by decide) (fun c12 => ?_) (fun c12 => ?_)
  · skip
    refine J_iload C dX5_yearTold_18 rfl ?_
    refine J_bipush C (v := (-9)) dX5_yearTold_20 (by decide) ?_
    refine J_icmp_eq C (tgt := 31) dX5_yearTold_22 (by decide) (fun c22 => ?_) (fun c22 => ?_)
    · skip
      refine J_aload_n C dX5_yearTold_31 rfl rfl ?_
      refine G5_trial C wd_2_8 dX5_yearTold_32 ?_
      rw [show x.2.2.2.1 = x.2.2.2.1 from rfl]
      refine J_aload_n C dX5_yearTold_35 rfl rfl ?_
      refine G5_shore C wd_2_7 dX5_yearTold_36 ?_
      refine J_callVv C (N := 10) (As := [.ref (Z.2.1 (25 + 6 * x.2.2.1))]) (c_X4_become l Z _ htr hcur (Ne.symm hne) hr ok) cw_RX5_179 wd_22_21 wd_22_22 (at_shore htr) rfl rfl rfl (Nat.le_of_ble_eq_true rfl) rfl rfl (Nat.le_of_ble_eq_true rfl) (Nat.le_of_ble_eq_true rfl) dX5_yearTold_39 (fun x39 hp39 => ?_)
      obtain ⟨hb39, hf39⟩ := hp39
      refine J_iconst C (v := nI 0) dX5_yearTold_42 (by decide) ?_
      refine J_istore C (L' := [some (.ref (Z.2.1 0)), some (.ref (Z.2.1 (2 + k))), some (.int (nI i)), some (.int (nI n)), some (.int w), some (.int (wrT A.1 g n)), some (.int (nI 0)), none]) dX5_yearTold_43 (by decide) rfl rfl ?_
      refine J_iconst C (v := nI 0) dX5_yearTold_45 (by decide) ?_
      refine J_istore C (L' := [some (.ref (Z.2.1 0)), some (.ref (Z.2.1 (2 + k))), some (.int (nI i)), some (.int (nI n)), some (.int w), some (.int (wrT A.1 g n)), some (.int (nI 0)), some (.int (nI 0))]) dX5_yearTold_46 (by decide) rfl rfl ?_
      have lp48 : ∀ (f : Nat) (j : Nat) (y : St), (j ≤ n) → (FRW x.2.2.2.1 x y) → (ShR y x.2.2.2.1 (yr A.1 g j)) → (n - j < f) →  J Γ y 48 [some (.ref (Z.2.1 0)), some (.ref (Z.2.1 (2 + k))), some (.int (nI i)), some (.int (nI n)), some (.int w), some (.int (wrT A.1 g n)), some (.int (nI (mvs A.1 g j))), some (.int (nI j))] [] := by
        intro f
        induction f with
        | zero =>
          intro j y hj hyf hyr hf
          omega
        | succ f ih48 =>
          intro j y hj hyf hyr hf
          have hyA := hyf.abs htr (Ne.symm hne) hA
          have hyc := hyf.1
          have hml := mvs_le ok g j
          have hmd := mvd_le (yr_ok ok g j) (g j)
          refine J_iload C dX5_yearTold_48 rfl ?_
          refine J_iload_n C dX5_yearTold_50 rfl rfl ?_
          refine J_icmp_ge_n C (tgt := 81) dX5_yearTold_51 (by decide) (by omega) (by omega) (fun c51 => ?_) (fun c51 => ?_)
          · skip
            refine J_iload C dX5_yearTold_81 rfl ?_
            refine J_if_ne C (tgt := 91) dX5_yearTold_83 (by decide) (fun c83 => ?_) (fun c83 => ?_)
            · skip
              refine J_aload_n C dX5_yearTold_91 rfl rfl ?_
              refine J_iload C dX5_yearTold_92 rfl ?_
              refine J_callVi C (q0 := 0) (ci := 5) (N := 8) (As := [.int w]) (c_X5_endOfYear l Z _ A hyA hk (by rw [hyc]; exact hyr) (yr_ok ok g j) (yr_1 A.1 g j) (by rw [yr_1]; exact hP) _ hw (show ¬ w = nI 0 from c83) c12) cw_RX5_186 wd_23_1 wd_23_2 rfl rfl rfl rfl (Nat.le_of_ble_eq_true rfl) rfl rfl (Nat.le_of_ble_eq_true rfl) (Nat.le_of_ble_eq_true rfl) dX5_yearTold_94 (fun r94 x94 hp94 => ?_)
              obtain ⟨rfl, rfl⟩ := hp94
              exact E dX5_yearTold_97 (⟨by rw [yearT, if_neg c12, if_neg (wrT_eq c22 (by omega)), if_neg (show ¬ w = nI 0 from c83), show n = j by omega], hyA⟩)
            · skip
              refine J_iload C dX5_yearTold_86 rfl ?_
              refine J_goto (tgt := 97) C dX5_yearTold_88 (by decide) ?_
              exact E dX5_yearTold_97 (⟨by rw [yearT, if_neg c12, if_neg (wrT_eq c22 (by omega)), if_pos (show w = nI 0 from c83), show n = j by omega], hyA⟩)
          · skip
            have hgj := hg j (by omega)
            refine J_iload C dX5_yearTold_54 rfl ?_
            refine J_aload_n C dX5_yearTold_56 rfl rfl ?_
            refine G5_trial C wd_2_8 dX5_yearTold_57 ?_
            rw [show y.2.2.2.1 = x.2.2.2.1 from by rw [hyc]]
            refine J_aload_n C dX5_yearTold_60 rfl rfl ?_
            refine G3_cells hk4 C wd_22_15 dX5_yearTold_61 ?_
            refine J_iload_n C dX5_yearTold_64 rfl rfl ?_
            refine J_iload C dX5_yearTold_65 rfl ?_
            refine J_iadd C (v := nI (i + j)) dX5_yearTold_67 (nI_add _ _) ?_
            refine L_cells hk4 C (v := nI (g j)) (by omega) (by rw [hyf.2.2 (6 + k) (by omega)]; exact hgj.1) dX5_yearTold_68 ?_
            refine J_callVi C (N := 10) (As := [.int (nI (g j))]) (c_X4_carryAll l Z _ htr hyr (yr_ok ok g j) (g j) (by omega)) cw_RX5_147 wd_18_16 wd_18_17 (at_shore htr) rfl rfl rfl (Nat.le_of_ble_eq_true rfl) rfl rfl (Nat.le_of_ble_eq_true rfl) (Nat.le_of_ble_eq_true rfl) dX5_yearTold_69 (fun r69 x69 hp69 => ?_)
            obtain ⟨rfl, hs69, hf69⟩ := hp69
            refine J_iadd C (v := nI (mvs A.1 g (j + 1))) dX5_yearTold_72 (nI_add _ _) ?_
            refine J_istore C (L' := [some (.ref (Z.2.1 0)), some (.ref (Z.2.1 (2 + k))), some (.int (nI i)), some (.int (nI n)), some (.int w), some (.int (wrT A.1 g n)), some (.int (nI (mvs A.1 g (j + 1)))), some (.int (nI j))]) dX5_yearTold_73 (by decide) rfl rfl ?_
            refine J_iinc C (v := nI (j + 1)) (L' := [some (.ref (Z.2.1 0)), some (.ref (Z.2.1 (2 + k))), some (.int (nI i)), some (.int (nI n)), some (.int w), some (.int (wrT A.1 g n)), some (.int (nI (mvs A.1 g (j + 1)))), some (.int (nI (j + 1)))]) dX5_yearTold_75 rfl (nI_1 _) (by decide) rfl rfl ?_
            refine J_goto (tgt := 48) C dX5_yearTold_78 (by decide) ?_
            refine J_drop ?_ (ih48 (j + 1) x69 (by omega) (hyf.tr hf69) hs69 (by omega))
            exact ⟨rfl, rfl, rfl, rfl, rfl, rfl, rfl, rfl, trivial⟩
      refine J_drop ?_ (lp48 (n + 1) 0 x39 (by omega) hf39 hb39 (by omega))
      exact ⟨rfl, rfl, rfl, rfl, rfl, rfl, rfl, rfl, trivial⟩
    · skip
      refine J_bipush C (v := (-100)) dX5_yearTold_25 (by decide) ?_
      refine J_iload C dX5_yearTold_27 rfl ?_
      refine J_isub C (v := (-100) - wrT A.1 g n) dX5_yearTold_29 (rfl) ?_
      exact E dX5_yearTold_30 (⟨by rw [yearT, if_neg c12, if_pos (wrT_ne c22).1, (wrT_ne c22).2], hA⟩)
  · skip
    refine J_iload C dX5_yearTold_15 rfl ?_
    exact E dX5_yearTold_17 (⟨by rw [yearT, if_pos c12], hA⟩)
def rm_X5_year : Room := ({ frames := 6, cells := 0, slots := 0, locals := 144 })
set_option maxRecDepth 20000 in
theorem c_X5_year (l : Launch) (Z : EC) (x : St) (A : AB) (hA : AbsC x A) (hk : AOK A) (k la i n w : Int32) : MIi l Z (wC Z) yX5_year cX5_year 7 rm_X5_year [.ref (Z.2.1 0), .int k, .int la, .int i, .int n, .int w] x (fun r x1 => r = R_year A k la i n w ∧ AbsC x1 (N_year A k la i n w)) := by
  obtain ⟨⟨hcur, htr, hne, hr⟩, hH, hR, hT, hF⟩ := id hA
  obtain ⟨ok, hkH, hkR, hkr⟩ := id hk
  obtain ⟨ok0, ok1, ok2, ok3, ok4, ok5, ok6, ok7⟩ := id ok
  refine MIi_of (own := RX5) (L0 := [some (.ref (Z.2.1 0)), some (.int k), some (.int la), some (.int i), some (.int n), some (.int w), none]) (by decide) rfl (Nat.le_of_ble_eq_true rfl) ⟨rfl, rfl, rfl, rfl, rfl, rfl, trivial⟩ ?_
  intro Γ C E
  refine J_aload_n C dX5_year_0 rfl rfl ?_
  refine J_iload_n C dX5_year_1 rfl rfl ?_
  refine J_iload_n C dX5_year_2 rfl rfl ?_
  refine J_iload_n C dX5_year_3 rfl rfl ?_
  refine J_iload C dX5_year_4 rfl ?_
  refine J_iload C dX5_year_6 rfl ?_
  refine J_callSz C (As := [.int w]) (c_X5_isToldOfYears l Z _ _) cw_RX5_162 wd_22_1 rfl rfl (Nat.le_of_ble_eq_true rfl) rfl rfl (Nat.le_of_ble_eq_true rfl) (Nat.le_of_ble_eq_true rfl) dX5_year_8 (fun b8 x8 hp8 => ?_)
  obtain ⟨rfl, rfl⟩ := hp8
  refine J_callVi C (q0 := 0) (ci := 5) (N := 8) (As := [.int k, .int la, .int i, .int n, .int (b2i (decide (yB w)))]) (c_X5_refusalOfRow l Z _ A hA hk _ _ _ _ (decide (yB w))) cw_RX5_165 wd_22_4 wd_22_5 rfl rfl rfl rfl (Nat.le_of_ble_eq_true rfl) rfl rfl (Nat.le_of_ble_eq_true rfl) (Nat.le_of_ble_eq_true rfl) dX5_year_11 (fun r11 x11 hp11 => ?_)
  rcases hp11 with ⟨h111, rfl, hA11⟩ | ⟨h111, h112, rfl, hA11⟩ | ⟨h111, h112, h113, rfl, hA11⟩ | ⟨h111, h112, h113, h114, rfl, hA11⟩ | ⟨h111, h112, h113, h114, h115, rfl, hA11⟩ | ⟨h111, h112, h113, h114, h115, h116, rfl, hA11⟩ | ⟨h111, h112, h113, h114, h115, h116, rfl, hA11⟩
  · skip
    obtain ⟨⟨hcur11, htr11, hne11, hr11o⟩, hH11o, hR11o, hT11, hF11⟩ := id hA11
    first | have hr11 : ShR x11 x11.2.2.1 A.1 := hr11o | have hr11 := hr11o
    first | have hH11 : CH x11 A.2.1 := hH11o | have hH11 := hH11o
    first | have hR11 : CR x11 A.2.2.1 := hR11o | have hR11 := hR11o
    refine J_istore C (L' := [some (.ref (Z.2.1 0)), some (.int k), some (.int la), some (.int i), some (.int n), some (.int w), some (.int (-1))]) dX5_year_14 (by decide) rfl rfl ?_
    refine J_iload C dX5_year_16 rfl ?_
    refine J_if_eq C (tgt := 24) dX5_year_18 (by decide) (fun c18 => absurd c18 (by decide)) (fun c18 => ?_)
    refine J_iload C dX5_year_21 rfl ?_
    exact E dX5_year_23 (⟨by rw [R_year, if_neg h111] <;> rfl, by rw [N_year, if_neg h111]; exact hA11⟩)
  · skip
    obtain ⟨⟨hcur11, htr11, hne11, hr11o⟩, hH11o, hR11o, hT11, hF11⟩ := id hA11
    first | have hr11 : ShR x11 x11.2.2.1 A.1 := hr11o | have hr11 := hr11o
    first | have hH11 : CH x11 A.2.1 := hH11o | have hH11 := hH11o
    first | have hR11 : CR x11 A.2.2.1 := hR11o | have hR11 := hR11o
    refine J_istore C (L' := [some (.ref (Z.2.1 0)), some (.int k), some (.int la), some (.int i), some (.int n), some (.int w), some (.int (-2))]) dX5_year_14 (by decide) rfl rfl ?_
    refine J_iload C dX5_year_16 rfl ?_
    refine J_if_eq C (tgt := 24) dX5_year_18 (by decide) (fun c18 => absurd c18 (by decide)) (fun c18 => ?_)
    refine J_iload C dX5_year_21 rfl ?_
    exact E dX5_year_23 (⟨by rw [R_year, if_pos h111, if_neg h112] <;> rfl, by rw [N_year, if_pos h111, if_neg h112]; exact hA11⟩)
  · skip
    obtain ⟨⟨hcur11, htr11, hne11, hr11o⟩, hH11o, hR11o, hT11, hF11⟩ := id hA11
    first | have hr11 : ShR x11 x11.2.2.1 A.1 := hr11o | have hr11 := hr11o
    first | have hH11 : CH x11 A.2.1 := hH11o | have hH11 := hH11o
    first | have hR11 : CR x11 A.2.2.1 := hR11o | have hR11 := hR11o
    refine J_istore C (L' := [some (.ref (Z.2.1 0)), some (.int k), some (.int la), some (.int i), some (.int n), some (.int w), some (.int (-2))]) dX5_year_14 (by decide) rfl rfl ?_
    refine J_iload C dX5_year_16 rfl ?_
    refine J_if_eq C (tgt := 24) dX5_year_18 (by decide) (fun c18 => absurd c18 (by decide)) (fun c18 => ?_)
    refine J_iload C dX5_year_21 rfl ?_
    exact E dX5_year_23 (⟨by rw [R_year, if_pos h111, if_pos h112, if_neg h113] <;> rfl, by rw [N_year, if_pos h111, if_pos h112, if_neg h113]; exact hA11⟩)
  · skip
    obtain ⟨⟨hcur11, htr11, hne11, hr11o⟩, hH11o, hR11o, hT11, hF11⟩ := id hA11
    first | have hr11 : ShR x11 x11.2.2.1 A.1 := hr11o | have hr11 := hr11o
    first | have hH11 : CH x11 A.2.1 := hH11o | have hH11 := hH11o
    first | have hR11 : CR x11 A.2.2.1 := hR11o | have hR11 := hR11o
    refine J_istore C (L' := [some (.ref (Z.2.1 0)), some (.int k), some (.int la), some (.int i), some (.int n), some (.int w), some (.int (-2))]) dX5_year_14 (by decide) rfl rfl ?_
    refine J_iload C dX5_year_16 rfl ?_
    refine J_if_eq C (tgt := 24) dX5_year_18 (by decide) (fun c18 => absurd c18 (by decide)) (fun c18 => ?_)
    refine J_iload C dX5_year_21 rfl ?_
    exact E dX5_year_23 (⟨by rw [R_year, if_pos h111, if_pos h112, if_pos h113, if_neg (of_decide_eq_false h114)] <;> rfl, by rw [N_year, if_pos h111, if_pos h112, if_pos h113, if_neg (of_decide_eq_false h114)]; exact hA11⟩)
  · skip
    obtain ⟨⟨hcur11, htr11, hne11, hr11o⟩, hH11o, hR11o, hT11, hF11⟩ := id hA11
    first | have hr11 : ShR x11 x11.2.2.1 A.1 := hr11o | have hr11 := hr11o
    first | have hH11 : CH x11 A.2.1 := hH11o | have hH11 := hH11o
    first | have hR11 : CR x11 A.2.2.1 := hR11o | have hR11 := hR11o
    refine J_istore C (L' := [some (.ref (Z.2.1 0)), some (.int k), some (.int la), some (.int i), some (.int n), some (.int w), some (.int ((-10) - nI (rowF A.2.1 (tn k) la i n)))]) dX5_year_14 (by decide) rfl rfl ?_
    refine J_iload C dX5_year_16 rfl ?_
    refine J_if_eq C (tgt := 24) dX5_year_18 (by decide) (fun c18 => absurd c18 (rf_ne (rowF_le _ _ _ _ _))) (fun c18 => ?_)
    refine J_iload C dX5_year_21 rfl ?_
    exact E dX5_year_23 (⟨by rw [R_year, if_pos h111, if_pos h112, if_pos h113, if_pos (of_decide_eq_true h114), if_neg h115] <;> rfl, by rw [N_year, if_pos h111, if_pos h112, if_pos h113, if_pos (of_decide_eq_true h114)]; exact hA11⟩)
  · skip
    obtain ⟨⟨hcur11, htr11, hne11, hr11o⟩, hH11o, hR11o, hT11, hF11⟩ := id hA11
    first | have hr11 : ShR x11 x11.2.2.1 A.1 := hr11o | have hr11 := hr11o
    first | have hH11 : CH x11 A.2.1 := hH11o | have hH11 := hH11o
    first | have hR11 : CR x11 A.2.2.1 := hR11o | have hR11 := hR11o
    refine J_istore C (L' := [some (.ref (Z.2.1 0)), some (.int k), some (.int la), some (.int i), some (.int n), some (.int w), some (.int (-3))]) dX5_year_14 (by decide) rfl rfl ?_
    refine J_iload C dX5_year_16 rfl ?_
    refine J_if_eq C (tgt := 24) dX5_year_18 (by decide) (fun c18 => absurd c18 (by decide)) (fun c18 => ?_)
    refine J_iload C dX5_year_21 rfl ?_
    exact E dX5_year_23 (⟨by rw [R_year, if_pos h111, if_pos h112, if_pos h113, if_pos (of_decide_eq_true h114), if_pos h115, if_pos h116] <;> rfl, by rw [N_year, if_pos h111, if_pos h112, if_pos h113, if_pos (of_decide_eq_true h114)]; exact hA11⟩)
  · skip
    obtain ⟨⟨hcur11, htr11, hne11, hr11o⟩, hH11o, hR11o, hT11, hF11⟩ := id hA11
    first | have hr11 : ShR x11 x11.2.2.1 A.1 := hr11o | have hr11 := hr11o
    first | have hH11 : CH x11 A.2.1 := hH11o | have hH11 := hH11o
    first | have hR11 : CR x11 A.2.2.1 := hR11o | have hR11 := hR11o
    obtain ⟨kn, k0, k3, rfl⟩ := rng_nat2 (A := 0) (B := 3) h111
    have hkn : kn < 4 := by omega
    have tnk := tn_nI (n := kn) (by omega)
    have gk := hkH kn hkn
    have h5 := h115
    rw [tnk] at h5
    obtain ⟨q1, q2, q3, q4, q5⟩ := rowF0 h5
    obtain ⟨nm, n0, n9, rfl⟩ := rng_nat2 (A := 0) (B := 20) h113
    obtain ⟨im, i0, i9, rfl⟩ := rng_nat2 (A := 0) (B := A.2.1.2.1 kn) ⟨q3, q4⟩
    have tni := tn_nI (n := im) (by omega)
    have tnn := tn_nI (n := nm) (by omega)
    rw [nI_i (by omega), nI_i (by omega)] at q5
    refine J_istore C (L' := [some (.ref (Z.2.1 0)), some (.int (nI kn)), some (.int la), some (.int (nI im)), some (.int (nI nm)), some (.int w), some (.int (nI 0))]) dX5_year_14 (by decide) rfl rfl ?_
    refine J_iload C dX5_year_16 rfl ?_
    refine J_if_eq C (tgt := 24) dX5_year_18 (by decide) (fun c18 => ?_) (fun c18 => absurd (by decide) c18)
    refine J_aload_n C dX5_year_24 rfl rfl ?_
    refine G5_sheets C wd_1_13 dX5_year_25 ?_
    refine J_iload_n C dX5_year_28 rfl rfl ?_
    refine L_sheets C hkn dX5_year_29 ?_
    refine J_iload_n C dX5_year_30 rfl rfl ?_
    refine J_iload C dX5_year_31 rfl ?_
    refine J_bipush C (v := nI 9) dX5_year_33 (by decide) ?_
    refine J_callVz C (N := 4) (As := [.int (nI im), .int (nI nm), .int (nI 9)]) (c_X3_areWithin l Z _ hkn im nm 9 (by omega) (by omega) (A.2.1.2.2 kn) (fun j hj => ((hH11 kn hkn).2 q1).2.2 (im + j) (by omega))) cw_RX5_169 wd_22_8 wd_22_9 (at_sheet hkn) rfl rfl rfl (Nat.le_of_ble_eq_true rfl) rfl rfl (Nat.le_of_ble_eq_true rfl) (Nat.le_of_ble_eq_true rfl) dX5_year_35 (fun b35 x35 hp35 => ?_)
    obtain ⟨rfl, rfl⟩ := hp35
    refine J_if_ne_d C (tgt := 44) dX5_year_38 (by decide) (fun c38 => ?_) (fun c38 => ?_)
    · skip
      refine J_aload_n C dX5_year_44 rfl rfl ?_
      refine J_aload_n C dX5_year_45 rfl rfl ?_
      refine G5_sheets C wd_1_13 dX5_year_46 ?_
      refine J_iload_n C dX5_year_49 rfl rfl ?_
      refine L_sheets C hkn dX5_year_50 ?_
      refine J_iload_n C dX5_year_51 rfl rfl ?_
      refine J_iload C dX5_year_52 rfl ?_
      refine J_iload C dX5_year_54 rfl ?_
      refine J_callVi C (q0 := 0) (ci := 5) (N := 8) (As := [.ref (Z.2.1 (2 + kn)), .int (nI im), .int (nI nm), .int w]) (c_X5_yearTold l Z _ (AsF A (nI (rowF A.2.1 (tn (nI kn)) la (nI im) (nI nm)))) hA11 hk _ im nm hkn (by omega) (fun j => tn (A.2.1.2.2 kn (im + j))) (fun j hj => by rw [((hH11 kn hkn).2 q1).2.2 (im + j) (by omega)]; have h9 := okC_nI c38 hj (by omega); exact ⟨h9.1, h9.2⟩) (by omega) (Nat.pos_of_ne_zero h116) _ (of_decide_eq_true h114)) cw_RX5_172 wd_22_12 wd_22_13 rfl rfl rfl rfl (Nat.le_of_ble_eq_true rfl) rfl rfl (Nat.le_of_ble_eq_true rfl) (Nat.le_of_ble_eq_true rfl) dX5_year_56 (fun r56 x56 hp56 => ?_)
      obtain ⟨rfl, hA56⟩ := hp56
      obtain ⟨⟨hcur56, htr56, hne56, hr56o⟩, hH56o, hR56o, hT56, hF56⟩ := id hA56
      first | have hr56 : ShR x56 x56.2.2.1 A.1 := hr56o | have hr56 := hr56o
      first | have hH56 : CH x56 A.2.1 := hH56o | have hH56 := hH56o
      first | have hR56 : CR x56 A.2.2.1 := hR56o | have hR56 := hR56o
      exact E dX5_year_59 (⟨by rw [R_year, if_pos h111, if_pos h112, if_pos h113, if_pos (of_decide_eq_true h114), if_pos h115, if_neg h116, tnk, tni, tnn, if_pos c38] <;> rfl, by rw [N_year, if_pos h111, if_pos h112, if_pos h113, if_pos (of_decide_eq_true h114)]; exact hA56⟩)
    · skip
      refine J_bipush C (v := (-2)) dX5_year_41 (by decide) ?_
      exact E dX5_year_43 (⟨by rw [R_year, if_pos h111, if_pos h112, if_pos h113, if_pos (of_decide_eq_true h114), if_pos h115, if_neg h116, tnk, tni, tnn, if_neg c38] <;> rfl, by rw [N_year, if_pos h111, if_pos h112, if_pos h113, if_pos (of_decide_eq_true h114)]; exact hA11⟩)
def rm_X5_driftOf : Room := ({ frames := 3, cells := 0, slots := 0, locals := 68 })
set_option maxRecDepth 20000 in
theorem c_X5_driftOf (l : Launch) (Z : EC) (x : St) (a : SA) (hs : CS x a) (ok : SOK a) (k i n : Nat) (hk4 : k < 4) (hin : i + n ≤ 60) (g : Nat → Nat) (hg : ∀ j, j < n → x.2.1 (6 + k) (i + j) = nI (g j) ∧ g j < a.1 3) (v : Nat) (hv : v ≤ 9) : MIi l Z (wC Z) yX5_driftOf cX5_driftOf 7 rm_X5_driftOf [.ref (Z.2.1 0), .int (nI v), .ref (Z.2.1 (2 + k)), .int (nI i), .int (nI n)] x (fun r x1 => r = nI (drF a g v n) ∧ x = x1) := by
  obtain ⟨ok0, ok1, ok2, ok3, ok4, ok5, ok6, ok7⟩ := id ok
  refine MIi_of (own := RX5) (L0 := [some (.ref (Z.2.1 0)), some (.int (nI v)), some (.ref (Z.2.1 (2 + k))), some (.int (nI i)), some (.int (nI n)), none, none]) (by decide) rfl (Nat.le_of_ble_eq_true rfl) ⟨rfl, rfl, rfl, rfl, rfl, trivial⟩ ?_
  intro Γ C E
  refine J_iload_n C dX5_driftOf_0 rfl rfl ?_
  refine J_istore C (L' := [some (.ref (Z.2.1 0)), some (.int (nI v)), some (.ref (Z.2.1 (2 + k))), some (.int (nI i)), some (.int (nI n)), some (.int (nI v)), none]) dX5_driftOf_1 (by decide) rfl rfl ?_
  refine J_iconst C (v := nI 0) dX5_driftOf_3 (by decide) ?_
  refine J_istore C (L' := [some (.ref (Z.2.1 0)), some (.int (nI v)), some (.ref (Z.2.1 (2 + k))), some (.int (nI i)), some (.int (nI n)), some (.int (nI v)), some (.int (nI 0))]) dX5_driftOf_4 (by decide) rfl rfl ?_
  have lp6 : ∀ (f : Nat) (j : Nat), (j ≤ n) → (n - j < f) →  J Γ x 6 [some (.ref (Z.2.1 0)), some (.int (nI v)), some (.ref (Z.2.1 (2 + k))), some (.int (nI i)), some (.int (nI n)), some (.int (nI (drF a g v j))), some (.int (nI j))] [] := by
    intro f
    induction f with
    | zero =>
      intro j hj hf
      omega
    | succ f ih6 =>
      intro j hj hf
      have hdl := drF_le ok g hv j
      refine J_iload C dX5_driftOf_6 rfl ?_
      refine J_iload C dX5_driftOf_8 rfl ?_
      refine J_icmp_ge_n C (tgt := 39) dX5_driftOf_10 (by decide) (by omega) (by omega) (fun c10 => ?_) (fun c10 => ?_)
      · skip
        refine J_iload C dX5_driftOf_39 rfl ?_
        exact E dX5_driftOf_41 (⟨by rw [show j = n by omega], rfl⟩)
      · skip
        have hgj := hg j (by omega)
        refine J_aload_n C dX5_driftOf_13 rfl rfl ?_
        refine G5_shore C wd_2_7 dX5_driftOf_14 ?_
        refine J_aload_n C dX5_driftOf_17 rfl rfl ?_
        refine G3_cells hk4 C wd_22_15 dX5_driftOf_18 ?_
        refine J_iload_n C dX5_driftOf_21 rfl rfl ?_
        refine J_iload C dX5_driftOf_22 rfl ?_
        refine J_iadd C (v := nI (i + j)) dX5_driftOf_24 (nI_add _ _) ?_
        refine L_cells hk4 C (v := nI (g j)) (by omega) (hgj.1) dX5_driftOf_25 ?_
        refine J_iload C dX5_driftOf_26 rfl ?_
        refine J_callVi C (N := 10) (As := [.int (nI (g j)), .int (nI (drF a g v j))]) (c_X4_driftIn l Z _ hs.1 hs.2.2.2 ok _ _ (by omega) (by omega)) cw_RX5_213 wd_25_4 wd_25_5 (at_shore hs.1) rfl rfl rfl (Nat.le_of_ble_eq_true rfl) rfl rfl (Nat.le_of_ble_eq_true rfl) (Nat.le_of_ble_eq_true rfl) dX5_driftOf_28 (fun r28 x28 hp28 => ?_)
        obtain ⟨rfl, rfl⟩ := hp28
        refine J_istore C (L' := [some (.ref (Z.2.1 0)), some (.int (nI v)), some (.ref (Z.2.1 (2 + k))), some (.int (nI i)), some (.int (nI n)), some (.int (nI (dri a (g j) (drF a g v j)))), some (.int (nI j))]) dX5_driftOf_31 (by decide) rfl rfl ?_
        refine J_iinc C (v := nI (j + 1)) (L' := [some (.ref (Z.2.1 0)), some (.int (nI v)), some (.ref (Z.2.1 (2 + k))), some (.int (nI i)), some (.int (nI n)), some (.int (nI (dri a (g j) (drF a g v j)))), some (.int (nI (j + 1)))]) dX5_driftOf_33 rfl (nI_1 _) (by decide) rfl rfl ?_
        refine J_goto (tgt := 6) C dX5_driftOf_36 (by decide) ?_
        refine J_drop ?_ (ih6 (j + 1) (by omega) (by omega))
        exact ⟨rfl, rfl, rfl, rfl, rfl, rfl, rfl, trivial⟩
  refine J_drop ?_ (lp6 (n + 1) 0 (by omega) (by omega))
  exact ⟨rfl, rfl, rfl, rfl, rfl, rfl, rfl, trivial⟩
def rm_X5_originsOf : Room := ({ frames := 4, cells := 0, slots := 0, locals := 94 })
set_option maxRecDepth 20000 in
theorem c_X5_originsOf (l : Launch) (Z : EC) (x : St) (a : SA) (hs : CS x a) (ok : SOK a) (k i n : Nat) (hk4 : k < 4) (hin : i + n ≤ 60) (g : Nat → Nat) (hg : ∀ j, j < n → x.2.1 (6 + k) (i + j) = nI (g j) ∧ g j < a.1 3) (v : Nat) (hv : v ≤ 9) : MIi l Z (wC Z) yX5_originsOf cX5_originsOf 7 rm_X5_originsOf [.ref (Z.2.1 0), .int (nI v), .ref (Z.2.1 (2 + k)), .int (nI i), .int (nI n)] x (fun r x1 => r = nI (bits (fun b => decide (drF a g b n = v)) 10) ∧ x = x1) := by
  obtain ⟨ok0, ok1, ok2, ok3, ok4, ok5, ok6, ok7⟩ := id ok
  refine MIi_of (own := RX5) (L0 := [some (.ref (Z.2.1 0)), some (.int (nI v)), some (.ref (Z.2.1 (2 + k))), some (.int (nI i)), some (.int (nI n)), none, none]) (by decide) rfl (Nat.le_of_ble_eq_true rfl) ⟨rfl, rfl, rfl, rfl, rfl, trivial⟩ ?_
  intro Γ C E
  refine J_iconst C (v := nI 0) dX5_originsOf_0 (by decide) ?_
  refine J_istore C (L' := [some (.ref (Z.2.1 0)), some (.int (nI v)), some (.ref (Z.2.1 (2 + k))), some (.int (nI i)), some (.int (nI n)), some (.int (nI 0)), none]) dX5_originsOf_1 (by decide) rfl rfl ?_
  refine J_iconst C (v := nI 0) dX5_originsOf_3 (by decide) ?_
  refine J_istore C (L' := [some (.ref (Z.2.1 0)), some (.int (nI v)), some (.ref (Z.2.1 (2 + k))), some (.int (nI i)), some (.int (nI n)), some (.int (nI 0)), some (.int (nI 0))]) dX5_originsOf_4 (by decide) rfl rfl ?_
  have lp6 : ∀ (f : Nat) (b : Nat), (b ≤ 10) → (10 - b < f) →  J Γ x 6 [some (.ref (Z.2.1 0)), some (.int (nI v)), some (.ref (Z.2.1 (2 + k))), some (.int (nI i)), some (.int (nI n)), some (.int (nI (bits (fun b => decide (drF a g b n = v)) b))), some (.int (nI b))] [] := by
    intro f
    induction f with
    | zero =>
      intro b hb hf
      omega
    | succ f ih6 =>
      intro b hb hf
      refine J_iload C dX5_originsOf_6 rfl ?_
      refine J_bipush C (v := nI 9) dX5_originsOf_8 (by decide) ?_
      refine J_icmp_gt_n C (tgt := 42) dX5_originsOf_10 (by decide) (by omega) (by omega) (fun c10 => ?_) (fun c10 => ?_)
      · skip
        refine J_iload C dX5_originsOf_42 rfl ?_
        exact E dX5_originsOf_44 (⟨by rw [show b = 10 by omega], rfl⟩)
      · skip
        refine J_aload_n C dX5_originsOf_13 rfl rfl ?_
        refine J_iload C dX5_originsOf_14 rfl ?_
        refine J_aload_n C dX5_originsOf_16 rfl rfl ?_
        refine J_iload_n C dX5_originsOf_17 rfl rfl ?_
        refine J_iload C dX5_originsOf_18 rfl ?_
        refine J_callVi C (q0 := 0) (ci := 5) (N := 8) (As := [.int (nI b), .ref (Z.2.1 (2 + k)), .int (nI i), .int (nI n)]) (c_X5_driftOf l Z _ a hs ok _ i n hk4 (by omega) g hg b (by omega)) cw_RX5_206 wd_25_0 wd_25_1 rfl rfl rfl rfl (Nat.le_of_ble_eq_true rfl) rfl rfl (Nat.le_of_ble_eq_true rfl) (Nat.le_of_ble_eq_true rfl) dX5_originsOf_20 (fun r20 x20 hp20 => ?_)
        obtain ⟨rfl, rfl⟩ := hp20
        have hdl := drF_le ok g (show b ≤ 9 by omega) n
        refine J_iload_n C dX5_originsOf_23 rfl rfl ?_
        refine J_icmp_ne_n C (tgt := 36) dX5_originsOf_24 (by decide) (by omega) (by omega) (fun c24 => ?_) (fun c24 => ?_)
        · skip
          refine J_iinc C (v := nI (b + 1)) (L' := [some (.ref (Z.2.1 0)), some (.int (nI v)), some (.ref (Z.2.1 (2 + k))), some (.int (nI i)), some (.int (nI n)), some (.int (nI (bits (fun b => decide (drF a g b n = v)) b))), some (.int (nI (b + 1)))]) dX5_originsOf_36 rfl (nI_1 _) (by decide) rfl rfl ?_
          refine J_goto (tgt := 6) C dX5_originsOf_39 (by decide) ?_
          refine J_drop ?_ (ih6 (b + 1) (by omega) (by omega))
          exact ⟨rfl, rfl, rfl, rfl, rfl, bits_noV (p := (fun b => decide (drF a g b n = v))) (by simpa using c24), rfl, trivial⟩
        · skip
          refine J_iload C dX5_originsOf_27 rfl ?_
          refine J_iconst C (v := nI 1) dX5_originsOf_29 (by decide) ?_
          refine J_iload C dX5_originsOf_30 rfl ?_
          refine J_ishl C (v := nI (2 ^ b)) dX5_originsOf_32 (sh1 _ (by omega)) ?_
          refine J_ior C (v := nI (bits (fun b => decide (drF a g b n = v)) (b + 1))) dX5_originsOf_33 (bits_or (p := (fun b => decide (drF a g b n = v))) (by simpa using c24)) ?_
          refine J_istore C (L' := [some (.ref (Z.2.1 0)), some (.int (nI v)), some (.ref (Z.2.1 (2 + k))), some (.int (nI i)), some (.int (nI n)), some (.int (nI (bits (fun b => decide (drF a g b n = v)) (b + 1)))), some (.int (nI b))]) dX5_originsOf_34 (by decide) rfl rfl ?_
          refine J_iinc C (v := nI (b + 1)) (L' := [some (.ref (Z.2.1 0)), some (.int (nI v)), some (.ref (Z.2.1 (2 + k))), some (.int (nI i)), some (.int (nI n)), some (.int (nI (bits (fun b => decide (drF a g b n = v)) (b + 1)))), some (.int (nI (b + 1)))]) dX5_originsOf_36 rfl (nI_1 _) (by decide) rfl rfl ?_
          refine J_goto (tgt := 6) C dX5_originsOf_39 (by decide) ?_
          refine J_drop ?_ (ih6 (b + 1) (by omega) (by omega))
          exact ⟨rfl, rfl, rfl, rfl, rfl, rfl, rfl, trivial⟩
  refine J_drop ?_ (lp6 (10 + 1) 0 (by omega) (by omega))
  exact ⟨rfl, rfl, rfl, rfl, rfl, rfl, rfl, trivial⟩
def rm_X5_drift : Room := ({ frames := 5, cells := 0, slots := 0, locals := 120 })
set_option maxRecDepth 20000 in
theorem c_X5_drift (l : Launch) (Z : EC) (x : St) (A : AB) (hA : AbsC x A) (hk : AOK A) (k la i n v w : Int32) : MIi l Z (wC Z) yX5_drift cX5_drift 8 rm_X5_drift [.ref (Z.2.1 0), .int k, .int la, .int i, .int n, .int v, .int w] x (fun r x1 => r = R_drift A k la i n v w ∧ AbsC x1 (N_drift A k la i n v w)) := by
  obtain ⟨⟨hcur, htr, hne, hr⟩, hH, hR, hT, hF⟩ := id hA
  obtain ⟨ok, hkH, hkR, hkr⟩ := id hk
  obtain ⟨ok0, ok1, ok2, ok3, ok4, ok5, ok6, ok7⟩ := id ok
  refine MIi_of (own := RX5) (L0 := [some (.ref (Z.2.1 0)), some (.int k), some (.int la), some (.int i), some (.int n), some (.int v), some (.int w), none]) (by decide) rfl (Nat.le_of_ble_eq_true rfl) ⟨rfl, rfl, rfl, rfl, rfl, rfl, rfl, trivial⟩ ?_
  intro Γ C E
  refine J_aload_n C dX5_drift_0 rfl rfl ?_
  refine J_iload_n C dX5_drift_1 rfl rfl ?_
  refine J_iload_n C dX5_drift_2 rfl rfl ?_
  refine J_iload_n C dX5_drift_3 rfl rfl ?_
  refine J_iload C dX5_drift_4 rfl ?_
  refine J_iload C dX5_drift_6 rfl ?_
  refine J_callSz C (As := [.int v]) (c_X5_isDigit l Z _ _) cw_RX5_124 wd_14_10 rfl rfl (Nat.le_of_ble_eq_true rfl) rfl rfl (Nat.le_of_ble_eq_true rfl) (Nat.le_of_ble_eq_true rfl) dX5_drift_8 (fun b8 x8 hp8 => ?_)
  obtain ⟨rfl, rfl⟩ := hp8
  refine J_if_eq_d C (tgt := 28) dX5_drift_11 (by decide) (fun c11 => ?_) (fun c11 => ?_)
  · skip
    refine J_iconst C (v := b2i false) dX5_drift_28 (rfl) ?_
    refine J_callVi C (q0 := 0) (ci := 5) (N := 8) (As := [.int k, .int la, .int i, .int n, .int (b2i false)]) (c_X5_refusalOfRow l Z _ A hA hk _ _ _ _ (false)) cw_RX5_165 wd_22_4 wd_22_5 rfl rfl rfl rfl (Nat.le_of_ble_eq_true rfl) rfl rfl (Nat.le_of_ble_eq_true rfl) (Nat.le_of_ble_eq_true rfl) dX5_drift_29 (fun r29 x29 hp29 => ?_)
    rcases hp29 with ⟨h291, rfl, hA29⟩ | ⟨h291, h292, rfl, hA29⟩ | ⟨h291, h292, h293, rfl, hA29⟩ | ⟨h291, h292, h293, h294, rfl, hA29⟩ | ⟨h291, h292, h293, h294, h295, rfl, hA29⟩ | ⟨h291, h292, h293, h294, h295, h296, rfl, hA29⟩ | ⟨h291, h292, h293, h294, h295, h296, rfl, hA29⟩
    · skip
      obtain ⟨⟨hcur29, htr29, hne29, hr29o⟩, hH29o, hR29o, hT29, hF29⟩ := id hA29
      first | have hr29 : ShR x29 x29.2.2.1 A.1 := hr29o | have hr29 := hr29o
      first | have hH29 : CH x29 A.2.1 := hH29o | have hH29 := hH29o
      first | have hR29 : CR x29 A.2.2.1 := hR29o | have hR29 := hR29o
      refine J_istore C (L' := [some (.ref (Z.2.1 0)), some (.int k), some (.int la), some (.int i), some (.int n), some (.int v), some (.int w), some (.int (-1))]) dX5_drift_32 (by decide) rfl rfl ?_
      refine J_iload C dX5_drift_34 rfl ?_
      refine J_if_eq C (tgt := 42) dX5_drift_36 (by decide) (fun c36 => absurd c36 (by decide)) (fun c36 => ?_)
      refine J_iload C dX5_drift_39 rfl ?_
      exact E dX5_drift_41 (⟨by rw [R_drift, if_neg h291] <;> first | rfl | (simp only [tnv]), by rw [N_drift, if_neg h291]; exact hA29⟩)
    · skip
      obtain ⟨⟨hcur29, htr29, hne29, hr29o⟩, hH29o, hR29o, hT29, hF29⟩ := id hA29
      first | have hr29 : ShR x29 x29.2.2.1 A.1 := hr29o | have hr29 := hr29o
      first | have hH29 : CH x29 A.2.1 := hH29o | have hH29 := hH29o
      first | have hR29 : CR x29 A.2.2.1 := hR29o | have hR29 := hR29o
      refine J_istore C (L' := [some (.ref (Z.2.1 0)), some (.int k), some (.int la), some (.int i), some (.int n), some (.int v), some (.int w), some (.int (-2))]) dX5_drift_32 (by decide) rfl rfl ?_
      refine J_iload C dX5_drift_34 rfl ?_
      refine J_if_eq C (tgt := 42) dX5_drift_36 (by decide) (fun c36 => absurd c36 (by decide)) (fun c36 => ?_)
      refine J_iload C dX5_drift_39 rfl ?_
      exact E dX5_drift_41 (⟨by rw [R_drift, if_pos h291, if_neg h292] <;> first | rfl | (simp only [tnv]), by rw [N_drift, if_pos h291, if_neg h292]; exact hA29⟩)
    · skip
      obtain ⟨⟨hcur29, htr29, hne29, hr29o⟩, hH29o, hR29o, hT29, hF29⟩ := id hA29
      first | have hr29 : ShR x29 x29.2.2.1 A.1 := hr29o | have hr29 := hr29o
      first | have hH29 : CH x29 A.2.1 := hH29o | have hH29 := hH29o
      first | have hR29 : CR x29 A.2.2.1 := hR29o | have hR29 := hR29o
      refine J_istore C (L' := [some (.ref (Z.2.1 0)), some (.int k), some (.int la), some (.int i), some (.int n), some (.int v), some (.int w), some (.int (-2))]) dX5_drift_32 (by decide) rfl rfl ?_
      refine J_iload C dX5_drift_34 rfl ?_
      refine J_if_eq C (tgt := 42) dX5_drift_36 (by decide) (fun c36 => absurd c36 (by decide)) (fun c36 => ?_)
      refine J_iload C dX5_drift_39 rfl ?_
      exact E dX5_drift_41 (⟨by rw [R_drift, if_pos h291, if_pos h292, if_neg h293] <;> first | rfl | (simp only [tnv]), by rw [N_drift, if_pos h291, if_pos h292, if_neg h293]; exact hA29⟩)
    · skip
      obtain ⟨⟨hcur29, htr29, hne29, hr29o⟩, hH29o, hR29o, hT29, hF29⟩ := id hA29
      first | have hr29 : ShR x29 x29.2.2.1 A.1 := hr29o | have hr29 := hr29o
      first | have hH29 : CH x29 A.2.1 := hH29o | have hH29 := hH29o
      first | have hR29 : CR x29 A.2.2.1 := hR29o | have hR29 := hR29o
      refine J_istore C (L' := [some (.ref (Z.2.1 0)), some (.int k), some (.int la), some (.int i), some (.int n), some (.int v), some (.int w), some (.int (-2))]) dX5_drift_32 (by decide) rfl rfl ?_
      refine J_iload C dX5_drift_34 rfl ?_
      refine J_if_eq C (tgt := 42) dX5_drift_36 (by decide) (fun c36 => absurd c36 (by decide)) (fun c36 => ?_)
      refine J_iload C dX5_drift_39 rfl ?_
      exact E dX5_drift_41 (⟨by rw [R_drift, if_pos h291, if_pos h292, if_pos h293, if_neg c11] <;> first | rfl | (simp only [tnv]), by rw [N_drift, if_pos h291, if_pos h292, if_pos h293, if_neg c11]; exact hA29⟩)
    · skip
      exact absurd h294 (by decide)
    · skip
      exact absurd h294 (by decide)
    · skip
      exact absurd h294 (by decide)
  · skip
    refine J_iload C dX5_drift_14 rfl ?_
    refine J_iconst C (v := nI 0) dX5_drift_16 (by decide) ?_
    refine J_iconst C (v := nI 1) dX5_drift_17 (by decide) ?_
    refine J_callSz C (As := [.int w, .int (nI 0), .int (nI 1)]) (c_X5_isWithin l Z _ _ _ _ (0) (1) (by decide) (by decide)) cw_RX5_120 wd_4_23 rfl rfl (Nat.le_of_ble_eq_true rfl) rfl rfl (Nat.le_of_ble_eq_true rfl) (Nat.le_of_ble_eq_true rfl) dX5_drift_18 (fun b18 x18 hp18 => ?_)
    obtain ⟨rfl, rfl⟩ := hp18
    refine J_if_eq_d C (tgt := 28) dX5_drift_21 (by decide) (fun c21 => ?_) (fun c21 => ?_)
    · skip
      refine J_iconst C (v := b2i false) dX5_drift_28 (rfl) ?_
      refine J_callVi C (q0 := 0) (ci := 5) (N := 8) (As := [.int k, .int la, .int i, .int n, .int (b2i false)]) (c_X5_refusalOfRow l Z _ A hA hk _ _ _ _ (false)) cw_RX5_165 wd_22_4 wd_22_5 rfl rfl rfl rfl (Nat.le_of_ble_eq_true rfl) rfl rfl (Nat.le_of_ble_eq_true rfl) (Nat.le_of_ble_eq_true rfl) dX5_drift_29 (fun r29 x29 hp29 => ?_)
      rcases hp29 with ⟨h291, rfl, hA29⟩ | ⟨h291, h292, rfl, hA29⟩ | ⟨h291, h292, h293, rfl, hA29⟩ | ⟨h291, h292, h293, h294, rfl, hA29⟩ | ⟨h291, h292, h293, h294, h295, rfl, hA29⟩ | ⟨h291, h292, h293, h294, h295, h296, rfl, hA29⟩ | ⟨h291, h292, h293, h294, h295, h296, rfl, hA29⟩
      · skip
        obtain ⟨⟨hcur29, htr29, hne29, hr29o⟩, hH29o, hR29o, hT29, hF29⟩ := id hA29
        first | have hr29 : ShR x29 x29.2.2.1 A.1 := hr29o | have hr29 := hr29o
        first | have hH29 : CH x29 A.2.1 := hH29o | have hH29 := hH29o
        first | have hR29 : CR x29 A.2.2.1 := hR29o | have hR29 := hR29o
        refine J_istore C (L' := [some (.ref (Z.2.1 0)), some (.int k), some (.int la), some (.int i), some (.int n), some (.int v), some (.int w), some (.int (-1))]) dX5_drift_32 (by decide) rfl rfl ?_
        refine J_iload C dX5_drift_34 rfl ?_
        refine J_if_eq C (tgt := 42) dX5_drift_36 (by decide) (fun c36 => absurd c36 (by decide)) (fun c36 => ?_)
        refine J_iload C dX5_drift_39 rfl ?_
        exact E dX5_drift_41 (⟨by rw [R_drift, if_neg h291] <;> first | rfl | (simp only [tnv]), by rw [N_drift, if_neg h291]; exact hA29⟩)
      · skip
        obtain ⟨⟨hcur29, htr29, hne29, hr29o⟩, hH29o, hR29o, hT29, hF29⟩ := id hA29
        first | have hr29 : ShR x29 x29.2.2.1 A.1 := hr29o | have hr29 := hr29o
        first | have hH29 : CH x29 A.2.1 := hH29o | have hH29 := hH29o
        first | have hR29 : CR x29 A.2.2.1 := hR29o | have hR29 := hR29o
        refine J_istore C (L' := [some (.ref (Z.2.1 0)), some (.int k), some (.int la), some (.int i), some (.int n), some (.int v), some (.int w), some (.int (-2))]) dX5_drift_32 (by decide) rfl rfl ?_
        refine J_iload C dX5_drift_34 rfl ?_
        refine J_if_eq C (tgt := 42) dX5_drift_36 (by decide) (fun c36 => absurd c36 (by decide)) (fun c36 => ?_)
        refine J_iload C dX5_drift_39 rfl ?_
        exact E dX5_drift_41 (⟨by rw [R_drift, if_pos h291, if_neg h292] <;> first | rfl | (simp only [tnv]), by rw [N_drift, if_pos h291, if_neg h292]; exact hA29⟩)
      · skip
        obtain ⟨⟨hcur29, htr29, hne29, hr29o⟩, hH29o, hR29o, hT29, hF29⟩ := id hA29
        first | have hr29 : ShR x29 x29.2.2.1 A.1 := hr29o | have hr29 := hr29o
        first | have hH29 : CH x29 A.2.1 := hH29o | have hH29 := hH29o
        first | have hR29 : CR x29 A.2.2.1 := hR29o | have hR29 := hR29o
        refine J_istore C (L' := [some (.ref (Z.2.1 0)), some (.int k), some (.int la), some (.int i), some (.int n), some (.int v), some (.int w), some (.int (-2))]) dX5_drift_32 (by decide) rfl rfl ?_
        refine J_iload C dX5_drift_34 rfl ?_
        refine J_if_eq C (tgt := 42) dX5_drift_36 (by decide) (fun c36 => absurd c36 (by decide)) (fun c36 => ?_)
        refine J_iload C dX5_drift_39 rfl ?_
        exact E dX5_drift_41 (⟨by rw [R_drift, if_pos h291, if_pos h292, if_neg h293] <;> first | rfl | (simp only [tnv]), by rw [N_drift, if_pos h291, if_pos h292, if_neg h293]; exact hA29⟩)
      · skip
        obtain ⟨⟨hcur29, htr29, hne29, hr29o⟩, hH29o, hR29o, hT29, hF29⟩ := id hA29
        first | have hr29 : ShR x29 x29.2.2.1 A.1 := hr29o | have hr29 := hr29o
        first | have hH29 : CH x29 A.2.1 := hH29o | have hH29 := hH29o
        first | have hR29 : CR x29 A.2.2.1 := hR29o | have hR29 := hR29o
        refine J_istore C (L' := [some (.ref (Z.2.1 0)), some (.int k), some (.int la), some (.int i), some (.int n), some (.int v), some (.int w), some (.int (-2))]) dX5_drift_32 (by decide) rfl rfl ?_
        refine J_iload C dX5_drift_34 rfl ?_
        refine J_if_eq C (tgt := 42) dX5_drift_36 (by decide) (fun c36 => absurd c36 (by decide)) (fun c36 => ?_)
        refine J_iload C dX5_drift_39 rfl ?_
        exact E dX5_drift_41 (⟨by rw [R_drift, if_pos h291, if_pos h292, if_pos h293, if_pos c11, if_neg c21] <;> first | rfl | (simp only [tnv]), by rw [N_drift, if_pos h291, if_pos h292, if_pos h293, if_pos c11, if_neg c21]; exact hA29⟩)
      · skip
        exact absurd h294 (by decide)
      · skip
        exact absurd h294 (by decide)
      · skip
        exact absurd h294 (by decide)
    · skip
      refine J_iconst C (v := b2i true) dX5_drift_24 (rfl) ?_
      refine J_goto (tgt := 29) C dX5_drift_25 (by decide) ?_
      refine J_callVi C (q0 := 0) (ci := 5) (N := 8) (As := [.int k, .int la, .int i, .int n, .int (b2i true)]) (c_X5_refusalOfRow l Z _ A hA hk _ _ _ _ (true)) cw_RX5_165 wd_22_4 wd_22_5 rfl rfl rfl rfl (Nat.le_of_ble_eq_true rfl) rfl rfl (Nat.le_of_ble_eq_true rfl) (Nat.le_of_ble_eq_true rfl) dX5_drift_29 (fun r29 x29 hp29 => ?_)
      rcases hp29 with ⟨h291, rfl, hA29⟩ | ⟨h291, h292, rfl, hA29⟩ | ⟨h291, h292, h293, rfl, hA29⟩ | ⟨h291, h292, h293, h294, rfl, hA29⟩ | ⟨h291, h292, h293, h294, h295, rfl, hA29⟩ | ⟨h291, h292, h293, h294, h295, h296, rfl, hA29⟩ | ⟨h291, h292, h293, h294, h295, h296, rfl, hA29⟩
      · skip
        obtain ⟨⟨hcur29, htr29, hne29, hr29o⟩, hH29o, hR29o, hT29, hF29⟩ := id hA29
        first | have hr29 : ShR x29 x29.2.2.1 A.1 := hr29o | have hr29 := hr29o
        first | have hH29 : CH x29 A.2.1 := hH29o | have hH29 := hH29o
        first | have hR29 : CR x29 A.2.2.1 := hR29o | have hR29 := hR29o
        refine J_istore C (L' := [some (.ref (Z.2.1 0)), some (.int k), some (.int la), some (.int i), some (.int n), some (.int v), some (.int w), some (.int (-1))]) dX5_drift_32 (by decide) rfl rfl ?_
        refine J_iload C dX5_drift_34 rfl ?_
        refine J_if_eq C (tgt := 42) dX5_drift_36 (by decide) (fun c36 => absurd c36 (by decide)) (fun c36 => ?_)
        refine J_iload C dX5_drift_39 rfl ?_
        exact E dX5_drift_41 (⟨by rw [R_drift, if_neg h291] <;> first | rfl | (simp only [tnv]), by rw [N_drift, if_neg h291]; exact hA29⟩)
      · skip
        obtain ⟨⟨hcur29, htr29, hne29, hr29o⟩, hH29o, hR29o, hT29, hF29⟩ := id hA29
        first | have hr29 : ShR x29 x29.2.2.1 A.1 := hr29o | have hr29 := hr29o
        first | have hH29 : CH x29 A.2.1 := hH29o | have hH29 := hH29o
        first | have hR29 : CR x29 A.2.2.1 := hR29o | have hR29 := hR29o
        refine J_istore C (L' := [some (.ref (Z.2.1 0)), some (.int k), some (.int la), some (.int i), some (.int n), some (.int v), some (.int w), some (.int (-2))]) dX5_drift_32 (by decide) rfl rfl ?_
        refine J_iload C dX5_drift_34 rfl ?_
        refine J_if_eq C (tgt := 42) dX5_drift_36 (by decide) (fun c36 => absurd c36 (by decide)) (fun c36 => ?_)
        refine J_iload C dX5_drift_39 rfl ?_
        exact E dX5_drift_41 (⟨by rw [R_drift, if_pos h291, if_neg h292] <;> first | rfl | (simp only [tnv]), by rw [N_drift, if_pos h291, if_neg h292]; exact hA29⟩)
      · skip
        obtain ⟨⟨hcur29, htr29, hne29, hr29o⟩, hH29o, hR29o, hT29, hF29⟩ := id hA29
        first | have hr29 : ShR x29 x29.2.2.1 A.1 := hr29o | have hr29 := hr29o
        first | have hH29 : CH x29 A.2.1 := hH29o | have hH29 := hH29o
        first | have hR29 : CR x29 A.2.2.1 := hR29o | have hR29 := hR29o
        refine J_istore C (L' := [some (.ref (Z.2.1 0)), some (.int k), some (.int la), some (.int i), some (.int n), some (.int v), some (.int w), some (.int (-2))]) dX5_drift_32 (by decide) rfl rfl ?_
        refine J_iload C dX5_drift_34 rfl ?_
        refine J_if_eq C (tgt := 42) dX5_drift_36 (by decide) (fun c36 => absurd c36 (by decide)) (fun c36 => ?_)
        refine J_iload C dX5_drift_39 rfl ?_
        exact E dX5_drift_41 (⟨by rw [R_drift, if_pos h291, if_pos h292, if_neg h293] <;> first | rfl | (simp only [tnv]), by rw [N_drift, if_pos h291, if_pos h292, if_neg h293]; exact hA29⟩)
      · skip
        exact absurd h294 (by decide)
      · skip
        obtain ⟨⟨hcur29, htr29, hne29, hr29o⟩, hH29o, hR29o, hT29, hF29⟩ := id hA29
        first | have hr29 : ShR x29 x29.2.2.1 A.1 := hr29o | have hr29 := hr29o
        first | have hH29 : CH x29 A.2.1 := hH29o | have hH29 := hH29o
        first | have hR29 : CR x29 A.2.2.1 := hR29o | have hR29 := hR29o
        refine J_istore C (L' := [some (.ref (Z.2.1 0)), some (.int k), some (.int la), some (.int i), some (.int n), some (.int v), some (.int w), some (.int ((-10) - nI (rowF A.2.1 (tn k) la i n)))]) dX5_drift_32 (by decide) rfl rfl ?_
        refine J_iload C dX5_drift_34 rfl ?_
        refine J_if_eq C (tgt := 42) dX5_drift_36 (by decide) (fun c36 => absurd c36 (rf_ne (rowF_le _ _ _ _ _))) (fun c36 => ?_)
        refine J_iload C dX5_drift_39 rfl ?_
        exact E dX5_drift_41 (⟨by rw [R_drift, if_pos h291, if_pos h292, if_pos h293, if_pos c11, if_pos c21, if_neg h295] <;> first | rfl | (simp only [tnv]), by rw [N_drift, if_pos h291, if_pos h292, if_pos h293, if_pos c11, if_pos c21]; exact hA29⟩)
      · skip
        obtain ⟨⟨hcur29, htr29, hne29, hr29o⟩, hH29o, hR29o, hT29, hF29⟩ := id hA29
        first | have hr29 : ShR x29 x29.2.2.1 A.1 := hr29o | have hr29 := hr29o
        first | have hH29 : CH x29 A.2.1 := hH29o | have hH29 := hH29o
        first | have hR29 : CR x29 A.2.2.1 := hR29o | have hR29 := hR29o
        refine J_istore C (L' := [some (.ref (Z.2.1 0)), some (.int k), some (.int la), some (.int i), some (.int n), some (.int v), some (.int w), some (.int (-3))]) dX5_drift_32 (by decide) rfl rfl ?_
        refine J_iload C dX5_drift_34 rfl ?_
        refine J_if_eq C (tgt := 42) dX5_drift_36 (by decide) (fun c36 => absurd c36 (by decide)) (fun c36 => ?_)
        refine J_iload C dX5_drift_39 rfl ?_
        exact E dX5_drift_41 (⟨by rw [R_drift, if_pos h291, if_pos h292, if_pos h293, if_pos c11, if_pos c21, if_pos h295, if_pos h296] <;> first | rfl | (simp only [tnv]), by rw [N_drift, if_pos h291, if_pos h292, if_pos h293, if_pos c11, if_pos c21]; exact hA29⟩)
      · skip
        obtain ⟨⟨hcur29, htr29, hne29, hr29o⟩, hH29o, hR29o, hT29, hF29⟩ := id hA29
        first | have hr29 : ShR x29 x29.2.2.1 A.1 := hr29o | have hr29 := hr29o
        first | have hH29 : CH x29 A.2.1 := hH29o | have hH29 := hH29o
        first | have hR29 : CR x29 A.2.2.1 := hR29o | have hR29 := hR29o
        obtain ⟨kn, k0, k3, rfl⟩ := rng_nat2 (A := 0) (B := 3) h291
        have hkn : kn < 4 := by omega
        have tnk := tn_nI (n := kn) (by omega)
        have gk := hkH kn hkn
        have h5 := h295
        rw [tnk] at h5
        obtain ⟨q1, q2, q3, q4, q5⟩ := rowF0 h5
        obtain ⟨nm, n0, n9, rfl⟩ := rng_nat2 (A := 0) (B := 20) h293
        obtain ⟨im, i0, i9, rfl⟩ := rng_nat2 (A := 0) (B := A.2.1.2.1 kn) ⟨q3, q4⟩
        have tni := tn_nI (n := im) (by omega)
        have tnn := tn_nI (n := nm) (by omega)
        rw [nI_i (by omega), nI_i (by omega)] at q5
        obtain ⟨vn, v0, v9, rfl⟩ := rng_nat2 (A := 0) (B := 9) (c11)
        have tnv := tn_nI (n := vn) (by omega)
        refine J_istore C (L' := [some (.ref (Z.2.1 0)), some (.int (nI kn)), some (.int la), some (.int (nI im)), some (.int (nI nm)), some (.int (nI vn)), some (.int w), some (.int (nI 0))]) dX5_drift_32 (by decide) rfl rfl ?_
        refine J_iload C dX5_drift_34 rfl ?_
        refine J_if_eq C (tgt := 42) dX5_drift_36 (by decide) (fun c36 => ?_) (fun c36 => absurd (by decide) c36)
        refine J_aload_n C dX5_drift_42 rfl rfl ?_
        refine G5_sheets C wd_1_13 dX5_drift_43 ?_
        refine J_iload_n C dX5_drift_46 rfl rfl ?_
        refine L_sheets C hkn dX5_drift_47 ?_
        refine J_iload_n C dX5_drift_48 rfl rfl ?_
        refine J_iload C dX5_drift_49 rfl ?_
        refine J_aload_n C dX5_drift_51 rfl rfl ?_
        refine G5_shore C wd_2_7 dX5_drift_52 ?_
        refine G4n_pools hcur29 hr29 C wd_11_6 dX5_drift_55 ?_
        refine J_iconst C (v := nI 1) dX5_drift_58 (by decide) ?_
        refine J_isub C (v := nI ((A.1.1 3) - 1)) dX5_drift_59 (pk_sub (a := A.1.1 3) (b := 1) (by omega)) ?_
        refine J_callVz C (N := 4) (As := [.int (nI im), .int (nI nm), .int (nI ((A.1.1 3) - 1))]) (c_X3_areWithin l Z _ hkn im nm ((A.1.1 3) - 1) (by omega) (by omega) (A.2.1.2.2 kn) (fun j hj => ((hH29 kn hkn).2 q1).2.2 (im + j) (by omega))) cw_RX5_169 wd_22_8 wd_22_9 (at_sheet hkn) rfl rfl rfl (Nat.le_of_ble_eq_true rfl) rfl rfl (Nat.le_of_ble_eq_true rfl) (Nat.le_of_ble_eq_true rfl) dX5_drift_60 (fun b60 x60 hp60 => ?_)
        obtain ⟨rfl, rfl⟩ := hp60
        refine J_if_ne_d C (tgt := 68) dX5_drift_63 (by decide) (fun c63 => ?_) (fun c63 => ?_)
        · skip
          refine J_iload C dX5_drift_68 rfl ?_
          refine J_if_ne C (tgt := 91) dX5_drift_70 (by decide) (fun c70 => ?_) (fun c70 => ?_)
          · skip
            refine J_aload_n C dX5_drift_91 rfl rfl ?_
            refine J_iload C dX5_drift_92 rfl ?_
            refine J_aload_n C dX5_drift_94 rfl rfl ?_
            refine G5_sheets C wd_1_13 dX5_drift_95 ?_
            refine J_iload_n C dX5_drift_98 rfl rfl ?_
            refine L_sheets C hkn dX5_drift_99 ?_
            refine J_iload_n C dX5_drift_100 rfl rfl ?_
            refine J_iload C dX5_drift_101 rfl ?_
            refine J_callVi C (q0 := 0) (ci := 5) (N := 8) (As := [.int (nI vn), .ref (Z.2.1 (2 + kn)), .int (nI im), .int (nI nm)]) (c_X5_originsOf l Z _ A.1 hA29.1 ok _ im nm hkn (by omega) (fun j => tn (A.2.1.2.2 kn (im + j))) (fun j hj => by rw [((hH29 kn hkn).2 q1).2.2 (im + j) (by omega)]; have h9 := okC_nI c63 hj (by omega); exact ⟨h9.1, by omega⟩) vn (by omega)) cw_RX5_210 wd_25_8 wd_25_9 rfl rfl rfl rfl (Nat.le_of_ble_eq_true rfl) rfl rfl (Nat.le_of_ble_eq_true rfl) (Nat.le_of_ble_eq_true rfl) dX5_drift_103 (fun r103 x103 hp103 => ?_)
            obtain ⟨rfl, rfl⟩ := hp103
            exact E dX5_drift_106 (⟨by rw [R_drift, if_pos h291, if_pos h292, if_pos h293, if_pos c11, if_pos c21, if_pos h295, if_neg h296, tnk, tni, tnn, if_pos c63, if_neg (show ¬ w = nI 0 from c70)] <;> first | rfl | (simp only [tnv]), by rw [N_drift, if_pos h291, if_pos h292, if_pos h293, if_pos c11, if_pos c21]; exact hA29⟩)
          · skip
            refine J_aload_n C dX5_drift_73 rfl rfl ?_
            refine J_iload C dX5_drift_74 rfl ?_
            refine J_aload_n C dX5_drift_76 rfl rfl ?_
            refine G5_sheets C wd_1_13 dX5_drift_77 ?_
            refine J_iload_n C dX5_drift_80 rfl rfl ?_
            refine L_sheets C hkn dX5_drift_81 ?_
            refine J_iload_n C dX5_drift_82 rfl rfl ?_
            refine J_iload C dX5_drift_83 rfl ?_
            refine J_callVi C (q0 := 0) (ci := 5) (N := 8) (As := [.int (nI vn), .ref (Z.2.1 (2 + kn)), .int (nI im), .int (nI nm)]) (c_X5_driftOf l Z _ A.1 hA29.1 ok _ im nm hkn (by omega) (fun j => tn (A.2.1.2.2 kn (im + j))) (fun j hj => by rw [((hH29 kn hkn).2 q1).2.2 (im + j) (by omega)]; have h9 := okC_nI c63 hj (by omega); exact ⟨h9.1, by omega⟩) vn (by omega)) cw_RX5_206 wd_25_0 wd_25_1 rfl rfl rfl rfl (Nat.le_of_ble_eq_true rfl) rfl rfl (Nat.le_of_ble_eq_true rfl) (Nat.le_of_ble_eq_true rfl) dX5_drift_85 (fun r85 x85 hp85 => ?_)
            obtain ⟨rfl, rfl⟩ := hp85
            refine J_goto (tgt := 106) C dX5_drift_88 (by decide) ?_
            exact E dX5_drift_106 (⟨by rw [R_drift, if_pos h291, if_pos h292, if_pos h293, if_pos c11, if_pos c21, if_pos h295, if_neg h296, tnk, tni, tnn, if_pos c63, if_pos (show w = nI 0 from c70)] <;> first | rfl | (simp only [tnv]), by rw [N_drift, if_pos h291, if_pos h292, if_pos h293, if_pos c11, if_pos c21]; exact hA29⟩)
        · skip
          refine J_iconst C (v := (-1)) dX5_drift_66 (by decide) ?_
          exact E dX5_drift_67 (⟨by rw [R_drift, if_pos h291, if_pos h292, if_pos h293, if_pos c11, if_pos c21, if_pos h295, if_neg h296, tnk, tni, tnn, if_neg c63] <;> first | rfl | (simp only [tnv]), by rw [N_drift, if_pos h291, if_pos h292, if_pos h293, if_pos c11, if_pos c21]; exact hA29⟩)
