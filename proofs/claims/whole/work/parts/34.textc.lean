def F16 (x y : St) : Prop := y.2 = x.2 ∧ ∀ u, u ≠ 16 → y.1 u = x.1 u
theorem F16.rf {x : St} : F16 x x := ⟨rfl, fun _ _ => rfl⟩
theorem F16.int {x : St} {v : Int32} : F16 x (setI x 16 v) := ⟨rfl, fun _ h => sI_ne h⟩
/-- but for the ints from a up to b and the place of the reader, and the arrays from c up to d, all is as before -/
def FG (a b c d : Nat) (x y : St) : Prop := y.2.2 = x.2.2 ∧ (∀ u, u ≠ 16 → (u < a ∨ b ≤ u) → y.1 u = x.1 u) ∧ ∀ u, (u < c ∨ d ≤ u) → y.2.1 u = x.2.1 u
section FGS
variable {a b c d : Nat} {x y z : St}
theorem FG.rf : FG a b c d x x := ⟨rfl, fun _ _ _ => rfl, fun _ _ => rfl⟩
theorem FG.tr (h : FG a b c d x y) (g : FG a b c d y z) : FG a b c d x z := ⟨g.1.trans h.1, fun u h1 h2 => (g.2.1 u h1 h2).trans (h.2.1 u h1 h2), fun u hu => (g.2.2 u hu).trans (h.2.2 u hu)⟩
theorem F16.g (h : F16 x y) : FG a b c d x y := ⟨by rw [h.1], fun u h1 _ => h.2 u h1, fun u _ => by rw [h.1]⟩
theorem FG.int {u : Nat} {v : Int32} (h1 : a ≤ u) (h2 : u < b) : FG a b c d x (setI x u v) := ⟨rfl, fun j _ hj => sI_ne (by omega), fun _ _ => rfl⟩
theorem FG.arr {u : Nat} {f : Nat → Int32} (h1 : c ≤ u) (h2 : u < d) : FG a b c d x (setA x u f) := ⟨rfl, fun _ _ _ => rfl, fun j hj => sA_ne (by omega)⟩
theorem FG.w {a' b' c' d' : Nat} (h : FG a b c d x y) (h1 : ∀ u, (u < a' ∨ b' ≤ u) → (u < a ∨ b ≤ u)) (h2 : ∀ u, (u < c' ∨ d' ≤ u) → (u < c ∨ d ≤ u)) : FG a' b' c' d' x y := ⟨h.1, fun u g1 g2 => h.2.1 u g1 (h1 u g2), fun u g => h.2.2 u (h2 u g)⟩
end FGS
/-- the reader stands at place p of n codes from i on of sheet k -/
def Rd (x : St) (k i n : Nat) (c : Nat → Int32) (p : Nat) : Prop := p ≤ n ∧ x.2.2.2.2 = some k ∧ x.1 14 = nI i ∧ x.1 15 = nI (i + n) ∧ x.1 16 = nI (i + p) ∧ ∀ q, q < n → x.2.1 (6 + k) (i + q) = c q
section RDS
variable {x y : St} {k i n p : Nat} {c : Nat → Int32}
theorem Rd.at (h : Rd x k i n c p) (hp : p + 1 ≤ n) : Rd (setI x 16 (nI (i + p + 1))) k i n c (p + 1) := ⟨hp, h.2.1, (sI_ne (by decide)).trans h.2.2.1, (sI_ne (by decide)).trans h.2.2.2.1, sI_eq, h.2.2.2.2.2⟩
theorem Rd.int {u : Nat} {v : Int32} (h : Rd x k i n c p) (hu : 17 ≤ u) : Rd (setI x u v) k i n c p := ⟨h.1, h.2.1, (sI_ne (by omega)).trans h.2.2.1, (sI_ne (by omega)).trans h.2.2.2.1, (sI_ne (by omega)).trans h.2.2.2.2.1, h.2.2.2.2.2⟩
theorem Rd.arr {u : Nat} {f : Nat → Int32} (h : Rd x k i n c p) (hu : 10 ≤ u) (hk : k < 4) : Rd (setA x u f) k i n c p := ⟨h.1, h.2.1, h.2.2.1, h.2.2.2.1, h.2.2.2.2.1, fun q hq => (congrFun (sA_ne (by omega)) _).trans (h.2.2.2.2.2 q hq)⟩
end RDS
section KN
variable {c : Nat → Int32} {n p : Nat}
theorem knd_1 (h : sgn c n p 115 = true) : knd c n p = 1 := by
  have h1 := sgn_t h
  unfold knd; rw [if_pos h1.1, if_pos h1.2]
theorem knd_2 (h : sgn c n p 99 = true) : knd c n p = 2 := by
  have h1 := sgn_t h
  unfold knd; rw [if_pos h1.1, h1.2, if_neg (by decide), if_pos rfl]
theorem knd_3 (h : sgn c n p 108 = true) : knd c n p = 3 := by
  have h1 := sgn_t h
  unfold knd; rw [if_pos h1.1, h1.2, if_neg (by decide), if_neg (by decide), if_pos rfl]
theorem knd_0 (h1 : sgn c n p 115 = false) (h2 : sgn c n p 99 = false) (h3 : sgn c n p 108 = false) : knd c n p = 0 := by
  have g1 := sgn_f h1
  have g2 := sgn_f h2
  have g3 := sgn_f h3
  unfold knd
  by_cases e : p < n
  · rw [if_pos e, if_neg (fun q => g1 ⟨e, q⟩), if_neg (fun q => g2 ⟨e, q⟩), if_neg (fun q => g3 ⟨e, q⟩)]
  · rw [if_neg e]
theorem hdF_1 (h : sgn c n 0 114 = false) : hdF c n = 1 := if_pos h
theorem hdF_2 (h : sgn c n 0 114 = true) (h1 : dgt c n 1 1 3 = 0) : hdF c n = 2 := by unfold hdF; rw [if_neg (by rw [h]; decide), if_pos h1]
theorem hdF_3 (h : sgn c n 0 114 = true) (h1 : dgt c n 1 1 3 ≠ 0) (h2 : dgt c n 2 0 9 = 0) : hdF c n = 3 := by unfold hdF; rw [if_neg (by rw [h]; decide), if_neg h1, if_pos h2]
theorem hdF_4 (h : sgn c n 0 114 = true) (h1 : dgt c n 1 1 3 ≠ 0) (h2 : dgt c n 2 0 9 ≠ 0) (h3 : dgt c n 3 0 9 = 0) : hdF c n = 4 := by unfold hdF; rw [if_neg (by rw [h]; decide), if_neg h1, if_neg h2, if_pos h3]
theorem hdF_0 (h : sgn c n 0 114 = true) (h1 : dgt c n 1 1 3 ≠ 0) (h2 : dgt c n 2 0 9 ≠ 0) (h3 : dgt c n 3 0 9 ≠ 0) : hdF c n = 0 := by unfold hdF; rw [if_neg (by rw [h]; decide), if_neg h1, if_neg h2, if_neg h3]
end KN
theorem updN {f : Nat → Int32} {g : Nat → Int32} {j v : Nat} {u : Nat → Nat} (h : ∀ q, q < j → f q = nI (u q)) (hg : g = upd f j (nI v)) (hv : v = u j) : ∀ q, q < j + 1 → g q = nI (u q) := by
  intro q hq
  rw [hg]
  by_cases e : q = j
  · subst e; rw [← hv]; exact upd_eq
  · exact (upd_ne e).trans (h q (by omega))
def FB (x y : St) : Prop := y.2.1 = x.2.1 ∧ y.2.2.1 = x.2.2.1 ∧ y.2.2.2.1 = x.2.2.2.1 ∧ ∀ u, u < 14 ∨ 17 ≤ u → y.1 u = x.1 u
theorem less1_n {d : Nat} (h : d ≠ 0) : less1 d = nI (d - 1) := if_neg h

def rm_X0_isAtEnd : Room := ({ frames := 0, cells := 0, slots := 0, locals := 0 })
set_option maxRecDepth 20000 in
theorem c_X0_isAtEnd (l : Launch) (Z : EC) (x : St) {k i n p : Nat} {c : Nat → Int32} (hk : k < 4) (hin : i + n ≤ 60) (hd : Rd x k i n c p)  : MIz l Z (wC Z) yX0_isAtEnd cX0_isAtEnd 1 rm_X0_isAtEnd [.ref (Z.2.1 10)] x (fun b x1 => b = decide (n ≤ p) ∧ x = x1) := by
  have hp1 := hd.1
  refine MIz_of (own := RX0) (L0 := [some (.ref (Z.2.1 10))]) (by decide) rfl (Nat.le_of_ble_eq_true rfl) ⟨rfl, trivial⟩ ?_
  intro Γ C E
  refine J_aload_n C dX0_isAtEnd_0 rfl rfl ?_
  refine G0_at C wd_6_1 dX0_isAtEnd_1 ?_
  rw [show x.1 16 = nI (i + p) from hd.2.2.2.2.1]
  refine J_aload_n C dX0_isAtEnd_4 rfl rfl ?_
  refine G0_end C wd_6_0 dX0_isAtEnd_5 ?_
  rw [show x.1 15 = nI (i + n) from hd.2.2.2.1]
  refine J_icmp_lt_n C (tgt := 15) dX0_isAtEnd_8 (by decide) (by omega) (by omega) (fun c8 => ?_) (fun c8 => ?_)
  · skip
    refine J_iconst C (v := nI 0) dX0_isAtEnd_15 (by decide) ?_
    exact E (b := false) dX0_isAtEnd_16 (⟨(decide_eq_false (by omega)).symm, rfl⟩)
  · skip
    refine J_iconst C (v := nI 1) dX0_isAtEnd_11 (by decide) ?_
    refine J_goto (tgt := 16) C dX0_isAtEnd_12 (by decide) ?_
    exact E (b := true) dX0_isAtEnd_16 (⟨(decide_eq_true (by omega)).symm, rfl⟩)
def rm_X0_takes : Room := ({ frames := 1, cells := 0, slots := 0, locals := 20 })
set_option maxRecDepth 20000 in
theorem c_X0_takes (l : Launch) (Z : EC) (x : St) {k i n p : Nat} {c : Nat → Int32} (hk : k < 4) (hin : i + n ≤ 60) (hd : Rd x k i n c p) (cd : Nat) (hcd : cd < 1000) : MIz l Z (wC Z) yX0_takes cX0_takes 2 rm_X0_takes [.ref (Z.2.1 10), .int (nI cd)] x (fun b x1 => (b = false ∧ sgn c n p cd = false ∧ x = x1) ∨ (b = true ∧ sgn c n p cd = true ∧ F16 x x1 ∧ Rd x1 k i n c (p + 1))) := by
  have hp1 := hd.1
  refine MIz_of (own := RX0) (L0 := [some (.ref (Z.2.1 10)), some (.int (nI cd))]) (by decide) rfl (Nat.le_of_ble_eq_true rfl) ⟨rfl, rfl, trivial⟩ ?_
  intro Γ C E
  refine J_aload_n C dX0_takes_0 rfl rfl ?_
  refine J_callVz C (q0 := 10) (ci := 0) (N := 4) (As := []) (c_X0_isAtEnd l Z _ hk hin hd) cw_RX0_25 wd_6_19 wd_6_20 rfl rfl rfl rfl (Nat.le_of_ble_eq_true rfl) rfl rfl (Nat.le_of_ble_eq_true rfl) (Nat.le_of_ble_eq_true rfl) dX0_takes_1 (fun b1 x1 hp1 => ?_)
  obtain ⟨rfl, rfl⟩ := hp1
  refine J_if_ne_d C (tgt := 23) dX0_takes_4 (by decide) (fun c4 => ?_) (fun c4 => ?_)
  · skip
    refine J_iconst C (v := nI 0) dX0_takes_23 (by decide) ?_
    exact E (b := false) dX0_takes_24 (Or.inl ⟨rfl, decide_eq_false (fun h => absurd h.1 (by omega)), rfl⟩)
  · skip
    refine J_aload_n C dX0_takes_7 rfl rfl ?_
    refine G0_sheet hd.2.1 C wd_5_22 dX0_takes_8 ?_
    refine G3_cells hk C wd_6_17 dX0_takes_11 ?_
    refine J_aload_n C dX0_takes_14 rfl rfl ?_
    refine G0_at C wd_6_1 dX0_takes_15 ?_
    rw [show x.1 16 = nI (i + p) from hd.2.2.2.2.1]
    refine L_cells hk C (v := c p) (by omega) (hd.2.2.2.2.2 p (by omega)) dX0_takes_18 ?_
    refine J_iload_n C dX0_takes_19 rfl rfl ?_
    refine J_icmp_eq C (tgt := 25) dX0_takes_20 (by decide) (fun c20 => ?_) (fun c20 => ?_)
    · skip
      refine J_aload_n C dX0_takes_25 rfl rfl ?_
      refine J_dup C dX0_takes_26 rfl ?_
      refine G0_at C wd_6_1 dX0_takes_27 ?_
      rw [show x.1 16 = nI (i + p) from hd.2.2.2.2.1]
      refine J_iconst C (v := nI 1) dX0_takes_30 (by decide) ?_
      refine J_iadd C (v := nI ((i + p) + 1)) dX0_takes_31 (nI_add _ _) ?_
      refine P0_at C wd_6_1 dX0_takes_32 ?_
      refine J_iconst C (v := nI 1) dX0_takes_35 (by decide) ?_
      exact E (b := true) dX0_takes_36 (Or.inr ⟨rfl, decide_eq_true ⟨by omega, c20⟩, F16.int, hd.at (by omega)⟩)
    · skip
      refine J_iconst C (v := nI 0) dX0_takes_23 (by decide) ?_
      exact E (b := false) dX0_takes_24 (Or.inl ⟨rfl, decide_eq_false (fun h => c20 h.2), rfl⟩)
def rm_X0_digit : Room := ({ frames := 1, cells := 0, slots := 0, locals := 22 })
set_option maxRecDepth 20000 in
theorem c_X0_digit (l : Launch) (Z : EC) (x : St) {k i n p : Nat} {c : Nat → Int32} (hk : k < 4) (hin : i + n ≤ 60) (hd : Rd x k i n c p) (lo hi : Nat) (hlo : lo ≤ 9) (hhi : hi ≤ 9) : MIi l Z (wC Z) yX0_digit cX0_digit 4 rm_X0_digit [.ref (Z.2.1 10), .int (nI lo), .int (nI hi)] x (fun r x1 => r = less1 (dgt c n p lo hi) ∧ F16 x x1 ∧ Rd x1 k i n c (p + adv (dgt c n p lo hi))) := by
  have hp1 := hd.1
  refine MIi_of (own := RX0) (L0 := [some (.ref (Z.2.1 10)), some (.int (nI lo)), some (.int (nI hi)), none]) (by decide) rfl (Nat.le_of_ble_eq_true rfl) ⟨rfl, rfl, rfl, trivial⟩ ?_
  intro Γ C E
  refine J_aload_n C dX0_digit_0 rfl rfl ?_
  refine J_callVz C (q0 := 10) (ci := 0) (N := 4) (As := []) (c_X0_isAtEnd l Z _ hk hin hd) cw_RX0_25 wd_6_19 wd_6_20 rfl rfl rfl rfl (Nat.le_of_ble_eq_true rfl) rfl rfl (Nat.le_of_ble_eq_true rfl) (Nat.le_of_ble_eq_true rfl) dX0_digit_1 (fun b1 x1 hp1 => ?_)
  obtain ⟨rfl, rfl⟩ := hp1
  refine J_if_ne_d C (tgt := 33) dX0_digit_4 (by decide) (fun c4 => ?_) (fun c4 => ?_)
  · skip
    have hz : dgt c n p lo hi = 0 := if_neg (fun h => absurd h.1 (by omega))
    refine J_bipush C (v := (-9)) dX0_digit_33 (by decide) ?_
    exact E dX0_digit_35 (⟨by rw [hz]; rfl, F16.rf, by rw [hz]; exact hd⟩)
  · skip
    refine J_aload_n C dX0_digit_7 rfl rfl ?_
    refine G0_sheet hd.2.1 C wd_5_22 dX0_digit_8 ?_
    refine G3_cells hk C wd_6_17 dX0_digit_11 ?_
    refine J_aload_n C dX0_digit_14 rfl rfl ?_
    refine G0_at C wd_6_1 dX0_digit_15 ?_
    rw [show x.1 16 = nI (i + p) from hd.2.2.2.2.1]
    refine L_cells hk C (v := c p) (by omega) (hd.2.2.2.2.2 p (by omega)) dX0_digit_18 ?_
    refine J_bipush C (v := nI 48) dX0_digit_19 (by decide) ?_
    refine J_iload_n C dX0_digit_21 rfl rfl ?_
    refine J_iadd C (v := nI (48 + lo)) dX0_digit_22 (nI_add _ _) ?_
    refine J_bipush C (v := nI 48) dX0_digit_23 (by decide) ?_
    refine J_iload_n C dX0_digit_25 rfl rfl ?_
    refine J_iadd C (v := nI (48 + hi)) dX0_digit_26 (nI_add _ _) ?_
    refine J_callNz C (As := [.int (c p), .int (nI (48 + lo)), .int (nI (48 + hi))]) (c_X5_isWithin l Z _ _ _ _ ((48 + lo : Nat) : Int) ((48 + hi : Nat) : Int) (nI_i (by omega)) (nI_i (by omega))) cw_RX0_35 wd_4_23 rfl rfl (Nat.le_of_ble_eq_true rfl) rfl rfl (Nat.le_of_ble_eq_true rfl) (Nat.le_of_ble_eq_true rfl) dX0_digit_27 (fun b27 x27 hp27 => ?_)
    obtain ⟨rfl, rfl⟩ := hp27
    refine J_if_ne_d C (tgt := 36) dX0_digit_30 (by decide) (fun c30 => ?_) (fun c30 => ?_)
    · skip
      obtain ⟨cn, n0, n9, hcn⟩ := rng_nat2 (A := 48 + lo) (B := 48 + hi) c30
      have hz : dgt c n p lo hi = cn - 48 + 1 := by unfold dgt; rw [if_pos ⟨by omega, c30⟩, hcn, tn_nI (by omega)]
      refine J_aload_n C dX0_digit_36 rfl rfl ?_
      refine G0_sheet hd.2.1 C wd_5_22 dX0_digit_37 ?_
      refine G3_cells hk C wd_6_17 dX0_digit_40 ?_
      refine J_aload_n C dX0_digit_43 rfl rfl ?_
      refine G0_at C wd_6_1 dX0_digit_44 ?_
      rw [show x.1 16 = nI (i + p) from hd.2.2.2.2.1]
      refine L_cells hk C (v := nI cn) (by omega) ((hd.2.2.2.2.2 p (by omega)).trans hcn) dX0_digit_47 ?_
      refine J_bipush C (v := nI 48) dX0_digit_48 (by decide) ?_
      refine J_isub C (v := nI (cn - 48)) dX0_digit_50 (pk_sub (a := cn) (b := 48) (by omega)) ?_
      refine J_istore_n C (L' := [some (.ref (Z.2.1 10)), some (.int (nI lo)), some (.int (nI hi)), some (.int (nI (cn - 48)))]) dX0_digit_51 rfl (by decide) rfl rfl ?_
      refine J_aload_n C dX0_digit_52 rfl rfl ?_
      refine J_dup C dX0_digit_53 rfl ?_
      refine G0_at C wd_6_1 dX0_digit_54 ?_
      rw [show x.1 16 = nI (i + p) from hd.2.2.2.2.1]
      refine J_iconst C (v := nI 1) dX0_digit_57 (by decide) ?_
      refine J_iadd C (v := nI ((i + p) + 1)) dX0_digit_58 (nI_add _ _) ?_
      refine P0_at C wd_6_1 dX0_digit_59 ?_
      refine J_iload_n C dX0_digit_62 rfl rfl ?_
      exact E dX0_digit_63 (⟨by rw [hz]; rfl, F16.int, by rw [hz]; exact hd.at (by omega)⟩)
    · skip
      have hz : dgt c n p lo hi = 0 := if_neg (fun h => c30 h.2)
      refine J_bipush C (v := (-9)) dX0_digit_33 (by decide) ?_
      exact E dX0_digit_35 (⟨by rw [hz]; rfl, F16.rf, by rw [hz]; exact hd⟩)
def rm_X0_kind : Room := ({ frames := 2, cells := 0, slots := 0, locals := 41 })
set_option maxRecDepth 20000 in
theorem c_X0_kind (l : Launch) (Z : EC) (x : St) {k i n p : Nat} {c : Nat → Int32} (hk : k < 4) (hin : i + n ≤ 60) (hd : Rd x k i n c p)  : MIi l Z (wC Z) yX0_kind cX0_kind 1 rm_X0_kind [.ref (Z.2.1 10)] x (fun r x1 => r = less1 (knd c n p) ∧ F16 x x1 ∧ Rd x1 k i n c (p + adv (knd c n p))) := by
  have hp1 := hd.1
  refine MIi_of (own := RX0) (L0 := [some (.ref (Z.2.1 10))]) (by decide) rfl (Nat.le_of_ble_eq_true rfl) ⟨rfl, trivial⟩ ?_
  intro Γ C E
  refine J_aload_n C dX0_kind_0 rfl rfl ?_
  refine J_bipush C (v := nI 115) dX0_kind_1 (by decide) ?_
  refine J_callVz C (q0 := 10) (ci := 0) (N := 4) (As := [.int (nI 115)]) (c_X0_takes l Z _ hk hin hd _ (by omega)) cw_RX0_39 wd_6_14 wd_6_15 rfl rfl rfl rfl (Nat.le_of_ble_eq_true rfl) rfl rfl (Nat.le_of_ble_eq_true rfl) (Nat.le_of_ble_eq_true rfl) dX0_kind_3 (fun b3 x3 hp3 => ?_)
  rcases hp3 with ⟨rfl, hs3, rfl⟩ | ⟨rfl, hs3, hf3, hd3⟩
  · skip
    refine J_if_eq_b C (tgt := 11) dX0_kind_6 (by decide) (fun c6 => ?_) (fun c6 => absurd c6 (by decide))
    refine J_aload_n C dX0_kind_11 rfl rfl ?_
    refine J_bipush C (v := nI 99) dX0_kind_12 (by decide) ?_
    refine J_callVz C (q0 := 10) (ci := 0) (N := 4) (As := [.int (nI 99)]) (c_X0_takes l Z _ hk hin hd _ (by omega)) cw_RX0_39 wd_6_14 wd_6_15 rfl rfl rfl rfl (Nat.le_of_ble_eq_true rfl) rfl rfl (Nat.le_of_ble_eq_true rfl) (Nat.le_of_ble_eq_true rfl) dX0_kind_14 (fun b14 x14 hp14 => ?_)
    rcases hp14 with ⟨rfl, hs14, rfl⟩ | ⟨rfl, hs14, hf14, hd14⟩
    · skip
      refine J_if_eq_b C (tgt := 22) dX0_kind_17 (by decide) (fun c17 => ?_) (fun c17 => absurd c17 (by decide))
      refine J_aload_n C dX0_kind_22 rfl rfl ?_
      refine J_bipush C (v := nI 108) dX0_kind_23 (by decide) ?_
      refine J_callVz C (q0 := 10) (ci := 0) (N := 4) (As := [.int (nI 108)]) (c_X0_takes l Z _ hk hin hd _ (by omega)) cw_RX0_39 wd_6_14 wd_6_15 rfl rfl rfl rfl (Nat.le_of_ble_eq_true rfl) rfl rfl (Nat.le_of_ble_eq_true rfl) (Nat.le_of_ble_eq_true rfl) dX0_kind_25 (fun b25 x25 hp25 => ?_)
      rcases hp25 with ⟨rfl, hs25, rfl⟩ | ⟨rfl, hs25, hf25, hd25⟩
      · skip
        refine J_if_eq_b C (tgt := 35) dX0_kind_28 (by decide) (fun c28 => ?_) (fun c28 => absurd c28 (by decide))
        refine J_bipush C (v := (-9)) dX0_kind_35 (by decide) ?_
        exact E dX0_kind_37 (⟨by rw [knd_0 hs3 hs14 hs25]; rfl, F16.rf, by rw [knd_0 hs3 hs14 hs25]; exact hd⟩)
      · skip
        refine J_if_eq_b C (tgt := 35) dX0_kind_28 (by decide) (fun c28 => absurd c28 (by decide)) (fun c28 => ?_)
        refine J_iconst C (v := nI 2) dX0_kind_31 (by decide) ?_
        refine J_goto (tgt := 37) C dX0_kind_32 (by decide) ?_
        exact E dX0_kind_37 (⟨by rw [knd_3 hs25]; rfl, hf25, by rw [knd_3 hs25]; exact hd25⟩)
    · skip
      refine J_if_eq_b C (tgt := 22) dX0_kind_17 (by decide) (fun c17 => absurd c17 (by decide)) (fun c17 => ?_)
      refine J_iconst C (v := nI 1) dX0_kind_20 (by decide) ?_
      exact E dX0_kind_21 (⟨by rw [knd_2 hs14]; rfl, hf14, by rw [knd_2 hs14]; exact hd14⟩)
  · skip
    refine J_if_eq_b C (tgt := 11) dX0_kind_6 (by decide) (fun c6 => absurd c6 (by decide)) (fun c6 => ?_)
    refine J_iconst C (v := nI 0) dX0_kind_9 (by decide) ?_
    exact E dX0_kind_10 (⟨by rw [knd_1 hs3]; rfl, hf3, by rw [knd_1 hs3]; exact hd3⟩)
def rm_X0_place : Room := ({ frames := 0, cells := 0, slots := 0, locals := 0 })
set_option maxRecDepth 20000 in
theorem c_X0_place (l : Launch) (Z : EC) (x : St) {k i n p : Nat} {c : Nat → Int32} (hk : k < 4) (hin : i + n ≤ 60) (hd : Rd x k i n c p)  : MIi l Z (wC Z) yX0_place cX0_place 1 rm_X0_place [.ref (Z.2.1 10)] x (fun r x1 => r = nI p ∧ x = x1) := by
  have hp1 := hd.1
  refine MIi_of (own := RX0) (L0 := [some (.ref (Z.2.1 10))]) (by decide) rfl (Nat.le_of_ble_eq_true rfl) ⟨rfl, trivial⟩ ?_
  intro Γ C E
  refine J_aload_n C dX0_place_0 rfl rfl ?_
  refine G0_at C wd_6_1 dX0_place_1 ?_
  rw [show x.1 16 = nI (i + p) from hd.2.2.2.2.1]
  refine J_aload_n C dX0_place_4 rfl rfl ?_
  refine G0_start C wd_5_23 dX0_place_5 ?_
  rw [show x.1 14 = nI i from hd.2.2.1]
  refine J_isub C (v := nI p) dX0_place_8 (by rw [pk_sub (by omega)]; congr 1; omega) ?_
  exact E dX0_place_9 (⟨rfl, rfl⟩)
def rm_X0_begin : Room := ({ frames := 0, cells := 0, slots := 0, locals := 0 })
set_option maxRecDepth 20000 in
theorem c_X0_begin (l : Launch) (Z : EC) (x : St) {k i n : Nat} {c : Nat → Int32} (hk : k < 4) (hin : i + n ≤ 60) (hc : ∀ q, q < n → x.2.1 (6 + k) (i + q) = c q) : MIv l Z (wC Z) yX0_begin cX0_begin 4 rm_X0_begin [.ref (Z.2.1 10), .ref (Z.2.1 (2 + k)), .int (nI i), .int (nI n)] x (fun x1 => Rd x1 k i n c 0 ∧ FB x x1) := by
  refine MIv_of (own := RX0) (L0 := [some (.ref (Z.2.1 10)), some (.ref (Z.2.1 (2 + k))), some (.int (nI i)), some (.int (nI n))]) (by decide) rfl (Nat.le_of_ble_eq_true rfl) ⟨rfl, rfl, rfl, rfl, trivial⟩ ?_
  intro Γ C E
  refine J_aload_n C dX0_begin_0 rfl rfl ?_
  refine J_aload_n C dX0_begin_1 rfl rfl ?_
  refine P0_sheet C wd_5_22 dX0_begin_2 ?_
  refine J_aload_n C dX0_begin_5 rfl rfl ?_
  refine J_iload_n C dX0_begin_6 rfl rfl ?_
  refine P0_start C wd_5_23 dX0_begin_7 ?_
  refine J_aload_n C dX0_begin_10 rfl rfl ?_
  refine J_iload_n C dX0_begin_11 rfl rfl ?_
  refine J_iload_n C dX0_begin_12 rfl rfl ?_
  refine J_iadd C (v := nI (i + n)) dX0_begin_13 (nI_add _ _) ?_
  refine P0_end C wd_6_0 dX0_begin_14 ?_
  refine J_aload_n C dX0_begin_17 rfl rfl ?_
  refine J_iload_n C dX0_begin_18 rfl rfl ?_
  refine P0_at C wd_6_1 dX0_begin_19 ?_
  exact E dX0_begin_22 (⟨⟨Nat.zero_le _, rfl, (sI_ne (by decide)).trans ((sI_ne (by decide)).trans sI_eq), (sI_ne (by decide)).trans sI_eq, sI_eq, hc⟩, rfl, rfl, rfl, fun u hu => (sI_ne (by omega)).trans ((sI_ne (by omega)).trans (sI_ne (by omega)))⟩)
def rm_X4_readsHead : Room := ({ frames := 2, cells := 0, slots := 0, locals := 45 })
set_option maxRecDepth 20000 in
theorem c_X4_readsHead (l : Launch) (Z : EC) (x : St) {w : Nat} (hw : w < 2) {k i n : Nat} {c : Nat → Int32} (hk : k < 4) (hin : i + n ≤ 60) (hd : Rd x k i n c 0)  : MIz l Z (wC Z) yX4_readsHead cX4_readsHead 2 rm_X4_readsHead [.ref (Z.2.1 (25 + 6 * w)), .ref (Z.2.1 10)] x (fun b x1 => FG (21 + 5 * w) (24 + 5 * w) 0 0 x x1 ∧ ((b = false ∧ hdF c n ≠ 0 ∧ Rd x1 k i n c (hdF c n - 1)) ∨ (b = true ∧ hdF c n = 0 ∧ Rd x1 k i n c 4 ∧ x1.1 (21 + 5 * w) = nI (dgt c n (1) 1 3 - 1) ∧ x1.1 (22 + 5 * w) = nI (dgt c n (2) 0 9 - 1) ∧ x1.1 (23 + 5 * w) = nI (dgt c n (3) 0 9 - 1)))) := by
  refine MIz_of (own := RX4) (L0 := [some (.ref (Z.2.1 (25 + 6 * w))), some (.ref (Z.2.1 10))]) (by decide) rfl (Nat.le_of_ble_eq_true rfl) ⟨rfl, rfl, trivial⟩ ?_
  intro Γ C E
  refine J_aload_n C dX4_readsHead_0 rfl rfl ?_
  refine J_bipush C (v := nI 114) dX4_readsHead_1 (by decide) ?_
  refine J_callVz C (q0 := 10) (ci := 0) (N := 4) (As := [.int (nI 114)]) (c_X0_takes l Z _ hk hin hd _ (by omega)) cw_RX4_59 wd_6_14 wd_6_15 rfl rfl rfl rfl (Nat.le_of_ble_eq_true rfl) rfl rfl (Nat.le_of_ble_eq_true rfl) (Nat.le_of_ble_eq_true rfl) dX4_readsHead_3 (fun b3 x3 hp3 => ?_)
  rcases hp3 with ⟨rfl, hs3, rfl⟩ | ⟨rfl, hs3, hf3, hd3⟩
  · skip
    refine J_if_ne_b C (tgt := 11) dX4_readsHead_6 (by decide) (fun c6 => absurd c6 (by decide)) (fun c6 => ?_)
    refine J_iconst C (v := nI 0) dX4_readsHead_9 (by decide) ?_
    exact E (b := false) dX4_readsHead_10 (⟨FG.rf, Or.inl ⟨rfl, by rw [hdF_1 hs3]; decide, by rw [hdF_1 hs3]; exact hd⟩⟩)
  · skip
    refine J_if_ne_b C (tgt := 11) dX4_readsHead_6 (by decide) (fun c6 => ?_) (fun c6 => absurd c6 (by decide))
    refine J_aload_n C dX4_readsHead_11 rfl rfl ?_
    refine J_aload_n C dX4_readsHead_12 rfl rfl ?_
    refine J_iconst C (v := nI 1) dX4_readsHead_13 (by decide) ?_
    refine J_iconst C (v := nI 3) dX4_readsHead_14 (by decide) ?_
    refine J_callVi C (q0 := 10) (ci := 0) (N := 4) (As := [.int (nI 1), .int (nI 3)]) (c_X0_digit l Z _ hk hin hd3 _ _ (by omega) (by omega)) cw_RX4_63 wd_6_23 wd_7_0 rfl rfl rfl rfl (Nat.le_of_ble_eq_true rfl) rfl rfl (Nat.le_of_ble_eq_true rfl) (Nat.le_of_ble_eq_true rfl) dX4_readsHead_15 (fun r15 x15 hp15 => ?_)
    obtain ⟨rfl, hf15, hd15⟩ := hp15
    refine P4_stream hw C wd_6_10 dX4_readsHead_18 ?_
    have hdA : Rd (setI x15 (21 + 5 * w) (less1 (dgt c n (1) 1 3))) k i n c (1 + adv (dgt c n (1) 1 3)) := hd15.int (by omega)
    have hgA : FG (21 + 5 * w) (24 + 5 * w) 0 0 x (setI x15 (21 + 5 * w) (less1 (dgt c n (1) 1 3))) := ((hf3.g).tr hf15.g).tr (FG.int (by omega) (by omega))
    have hvA : ((setI x15 (21 + 5 * w) (less1 (dgt c n (1) 1 3)))).1 (21 + 5 * w) = less1 (dgt c n (1) 1 3) := sI_eq
    generalize setI x15 (21 + 5 * w) (less1 (dgt c n (1) 1 3)) = yA at hdA hgA hvA ⊢
    refine J_aload_n C dX4_readsHead_21 rfl rfl ?_
    refine G4_stream hw C wd_6_10 dX4_readsHead_22 ?_
    rw [show yA.1 (21 + 5 * w) = less1 (dgt c n (1) 1 3) from hvA]
    refine J_bipush C (v := (-9)) dX4_readsHead_25 (by decide) ?_
    refine J_icmp_ne C (tgt := 32) dX4_readsHead_27 (by decide) (fun c27 => ?_) (fun c27 => ?_)
    · skip
      have z1 : dgt c n (1) 1 3 ≠ 0 := fun e => c27 (by rw [e]; rfl)
      rw [adv1 z1] at hdA
      refine J_aload_n C dX4_readsHead_32 rfl rfl ?_
      refine J_aload_n C dX4_readsHead_33 rfl rfl ?_
      refine J_iconst C (v := nI 0) dX4_readsHead_34 (by decide) ?_
      refine J_bipush C (v := nI 9) dX4_readsHead_35 (by decide) ?_
      refine J_callVi C (q0 := 10) (ci := 0) (N := 4) (As := [.int (nI 0), .int (nI 9)]) (c_X0_digit l Z _ hk hin hdA _ _ (by omega) (by omega)) cw_RX4_63 wd_6_23 wd_7_0 rfl rfl rfl rfl (Nat.le_of_ble_eq_true rfl) rfl rfl (Nat.le_of_ble_eq_true rfl) (Nat.le_of_ble_eq_true rfl) dX4_readsHead_37 (fun r37 x37 hp37 => ?_)
      obtain ⟨rfl, hf37, hd37⟩ := hp37
      refine P4_mild hw C wd_6_11 dX4_readsHead_40 ?_
      have hdB : Rd (setI x37 (22 + 5 * w) (less1 (dgt c n (2) 0 9))) k i n c (2 + adv (dgt c n (2) 0 9)) := hd37.int (by omega)
      have hgB : FG (21 + 5 * w) (24 + 5 * w) 0 0 x (setI x37 (22 + 5 * w) (less1 (dgt c n (2) 0 9))) := (hgA.tr hf37.g).tr (FG.int (by omega) (by omega))
      have hvB : ((setI x37 (22 + 5 * w) (less1 (dgt c n (2) 0 9)))).1 (22 + 5 * w) = less1 (dgt c n (2) 0 9) := sI_eq
      have hvA2 : ((setI x37 (22 + 5 * w) (less1 (dgt c n (2) 0 9)))).1 (21 + 5 * w) = less1 (dgt c n (1) 1 3) := (sI_ne (by omega)).trans ((hf37.2 _ (by omega)).trans hvA)
      generalize setI x37 (22 + 5 * w) (less1 (dgt c n (2) 0 9)) = yB at hdB hgB hvB hvA2 ⊢
      refine J_aload_n C dX4_readsHead_43 rfl rfl ?_
      refine G4_mild hw C wd_6_11 dX4_readsHead_44 ?_
      rw [show yB.1 (22 + 5 * w) = less1 (dgt c n (2) 0 9) from hvB]
      refine J_bipush C (v := (-9)) dX4_readsHead_47 (by decide) ?_
      refine J_icmp_ne C (tgt := 54) dX4_readsHead_49 (by decide) (fun c49 => ?_) (fun c49 => ?_)
      · skip
        have z2 : dgt c n (2) 0 9 ≠ 0 := fun e => c49 (by rw [e]; rfl)
        rw [adv1 z2] at hdB
        refine J_aload_n C dX4_readsHead_54 rfl rfl ?_
        refine J_aload_n C dX4_readsHead_55 rfl rfl ?_
        refine J_iconst C (v := nI 0) dX4_readsHead_56 (by decide) ?_
        refine J_bipush C (v := nI 9) dX4_readsHead_57 (by decide) ?_
        refine J_callVi C (q0 := 10) (ci := 0) (N := 4) (As := [.int (nI 0), .int (nI 9)]) (c_X0_digit l Z _ hk hin hdB _ _ (by omega) (by omega)) cw_RX4_63 wd_6_23 wd_7_0 rfl rfl rfl rfl (Nat.le_of_ble_eq_true rfl) rfl rfl (Nat.le_of_ble_eq_true rfl) (Nat.le_of_ble_eq_true rfl) dX4_readsHead_59 (fun r59 x59 hp59 => ?_)
        obtain ⟨rfl, hf59, hd59⟩ := hp59
        refine P4_reach hw C wd_6_12 dX4_readsHead_62 ?_
        have hdC : Rd (setI x59 (23 + 5 * w) (less1 (dgt c n (3) 0 9))) k i n c (3 + adv (dgt c n (3) 0 9)) := hd59.int (by omega)
        have hgC : FG (21 + 5 * w) (24 + 5 * w) 0 0 x (setI x59 (23 + 5 * w) (less1 (dgt c n (3) 0 9))) := (hgB.tr hf59.g).tr (FG.int (by omega) (by omega))
        have hvC : ((setI x59 (23 + 5 * w) (less1 (dgt c n (3) 0 9)))).1 (23 + 5 * w) = less1 (dgt c n (3) 0 9) := sI_eq
        have hvA3 : ((setI x59 (23 + 5 * w) (less1 (dgt c n (3) 0 9)))).1 (21 + 5 * w) = less1 (dgt c n (1) 1 3) := (sI_ne (by omega)).trans ((hf59.2 _ (by omega)).trans hvA2)
        have hvB2 : ((setI x59 (23 + 5 * w) (less1 (dgt c n (3) 0 9)))).1 (22 + 5 * w) = less1 (dgt c n (2) 0 9) := (sI_ne (by omega)).trans ((hf59.2 _ (by omega)).trans hvB)
        generalize setI x59 (23 + 5 * w) (less1 (dgt c n (3) 0 9)) = yC at hdC hgC hvC hvA3 hvB2 ⊢
        refine J_aload_n C dX4_readsHead_65 rfl rfl ?_
        refine G4_reach hw C wd_6_12 dX4_readsHead_66 ?_
        rw [show yC.1 (23 + 5 * w) = less1 (dgt c n (3) 0 9) from hvC]
        refine J_bipush C (v := (-9)) dX4_readsHead_69 (by decide) ?_
        refine J_icmp_eq C (tgt := 78) dX4_readsHead_71 (by decide) (fun c71 => ?_) (fun c71 => ?_)
        · skip
          have z3 : dgt c n (3) 0 9 = 0 := less1_eq c71 (by have : dgt c n (3) 0 9 ≤ 10 := dgt_le; omega)
          refine J_iconst C (v := nI 0) dX4_readsHead_78 (by decide) ?_
          exact E (b := false) dX4_readsHead_79 (⟨hgC, Or.inl ⟨rfl, by rw [hdF_4 hs3 z1 z2 z3]; decide, by rw [hdF_4 hs3 z1 z2 z3]; exact (by rw [adv_z z3] at hdC; exact hdC)⟩⟩)
        · skip
          have z3 : dgt c n (3) 0 9 ≠ 0 := fun e => c71 (by rw [e]; rfl)
          rw [adv1 z3] at hdC
          refine J_iconst C (v := nI 1) dX4_readsHead_74 (by decide) ?_
          refine J_goto (tgt := 79) C dX4_readsHead_75 (by decide) ?_
          exact E (b := true) dX4_readsHead_79 (⟨hgC, Or.inr ⟨rfl, hdF_0 hs3 z1 z2 z3, hdC, hvA3.trans (less1_n z1), hvB2.trans (less1_n z2), hvC.trans (less1_n z3)⟩⟩)
      · skip
        have z2 : dgt c n (2) 0 9 = 0 := less1_eq c49 (by have : dgt c n (2) 0 9 ≤ 10 := dgt_le; omega)
        refine J_iconst C (v := nI 0) dX4_readsHead_52 (by decide) ?_
        exact E (b := false) dX4_readsHead_53 (⟨hgB, Or.inl ⟨rfl, by rw [hdF_3 hs3 z1 z2]; decide, by rw [hdF_3 hs3 z1 z2]; exact (by rw [adv_z z2] at hdB; exact hdB)⟩⟩)
    · skip
      have z1 : dgt c n (1) 1 3 = 0 := less1_eq c27 (by have : dgt c n (1) 1 3 ≤ 4 := dgt_le; omega)
      refine J_iconst C (v := nI 0) dX4_readsHead_30 (by decide) ?_
      exact E (b := false) dX4_readsHead_31 (⟨hgA, Or.inl ⟨rfl, by rw [hdF_2 hs3 z1]; decide, by rw [hdF_2 hs3 z1]; exact (by rw [adv_z z1] at hdA; exact hdA)⟩⟩)
def rm_X4_readsPool : Room := ({ frames := 2, cells := 0, slots := 0, locals := 45 })
set_option maxRecDepth 20000 in
theorem c_X4_readsPool (l : Launch) (Z : EC) (x : St) {w : Nat} (hw : w < 2) {k i n p : Nat} {c : Nat → Int32} (hk : k < 4) (hin : i + n ≤ 60) (hd : Rd x k i n c p) {j : Nat} (hj : j < 6) (hpj : x.1 (24 + 5 * w) = nI j) : MIz l Z (wC Z) yX4_readsPool cX4_readsPool 2 rm_X4_readsPool [.ref (Z.2.1 (25 + 6 * w)), .ref (Z.2.1 10)] x (fun b x1 => FG 0 0 (26 + 6 * w) (28 + 6 * w) x x1 ∧ ((b = false ∧ dgt c n (p) 1 9 = 0 ∧ Rd x1 k i n c p) ∨ (b = false ∧ dgt c n (p) 1 9 ≠ 0 ∧ dgt c n (p + 1) 1 9 = 0 ∧ Rd x1 k i n c (p + 1)) ∨ (b = true ∧ dgt c n (p) 1 9 ≠ 0 ∧ dgt c n (p + 1) 1 9 ≠ 0 ∧ Rd x1 k i n c (p + 1 + 1) ∧ x1.2.1 (26 + 6 * w) = upd (x.2.1 (26 + 6 * w)) j (nI (dgt c n (p) 1 9 - 1)) ∧ x1.2.1 (27 + 6 * w) = upd (x.2.1 (27 + 6 * w)) j (nI (dgt c n (p + 1) 1 9 - 1))))) := by
  refine MIz_of (own := RX4) (L0 := [some (.ref (Z.2.1 (25 + 6 * w))), some (.ref (Z.2.1 10))]) (by decide) rfl (Nat.le_of_ble_eq_true rfl) ⟨rfl, rfl, trivial⟩ ?_
  intro Γ C E
  refine J_aload_n C dX4_readsPool_0 rfl rfl ?_
  refine G4_heights hw C wd_3_9 dX4_readsPool_1 ?_
  refine J_aload_n C dX4_readsPool_4 rfl rfl ?_
  refine G4_pools hw C wd_7_6 dX4_readsPool_5 ?_
  rw [show x.1 (24 + 5 * w) = nI j from hpj]
  refine J_aload_n C dX4_readsPool_8 rfl rfl ?_
  refine J_iconst C (v := nI 1) dX4_readsPool_9 (by decide) ?_
  refine J_bipush C (v := nI 9) dX4_readsPool_10 (by decide) ?_
  refine J_callVi C (q0 := 10) (ci := 0) (N := 4) (As := [.int (nI 1), .int (nI 9)]) (c_X0_digit l Z _ hk hin hd _ _ (by omega) (by omega)) cw_RX4_63 wd_6_23 wd_7_0 rfl rfl rfl rfl (Nat.le_of_ble_eq_true rfl) rfl rfl (Nat.le_of_ble_eq_true rfl) (Nat.le_of_ble_eq_true rfl) dX4_readsPool_12 (fun r12 x12 hp12 => ?_)
  obtain ⟨rfl, hf12, hd12⟩ := hp12
  refine S_heights hw C (by omega) dX4_readsPool_15 ?_
  have hdA : Rd (setA x12 (26 + 6 * w) (upd (x12.2.1 (26 + 6 * w)) j (less1 (dgt c n (p) 1 9)))) k i n c (p + adv (dgt c n (p) 1 9)) := hd12.arr (by omega) hk
  have hgA : FG 0 0 (26 + 6 * w) (28 + 6 * w) x (setA x12 (26 + 6 * w) (upd (x12.2.1 (26 + 6 * w)) j (less1 (dgt c n (p) 1 9)))) := ((FG.rf (a := 0) (b := 0) (c := 26 + 6 * w) (d := 28 + 6 * w) (x := x)).tr hf12.g).tr (FG.arr (by omega) (by omega))
  have hjA : ((setA x12 (26 + 6 * w) (upd (x12.2.1 (26 + 6 * w)) j (less1 (dgt c n (p) 1 9))))).1 (24 + 5 * w) = nI j := (hf12.2 _ (by omega)).trans hpj
  have haA : ((setA x12 (26 + 6 * w) (upd (x12.2.1 (26 + 6 * w)) j (less1 (dgt c n (p) 1 9))))).2.1 (26 + 6 * w) = upd (x.2.1 (26 + 6 * w)) j (less1 (dgt c n (p) 1 9)) := sA_eq.trans (by rw [hf12.1])
  have haO : ((setA x12 (26 + 6 * w) (upd (x12.2.1 (26 + 6 * w)) j (less1 (dgt c n (p) 1 9))))).2.1 (27 + 6 * w) = x.2.1 (27 + 6 * w) := (sA_ne (by omega)).trans (by rw [hf12.1])
  generalize setA x12 (26 + 6 * w) (upd (x12.2.1 (26 + 6 * w)) j (less1 (dgt c n (p) 1 9))) = yA at hdA hgA hjA haA haO ⊢
  refine J_aload_n C dX4_readsPool_16 rfl rfl ?_
  refine G4_heights hw C wd_3_9 dX4_readsPool_17 ?_
  refine J_aload_n C dX4_readsPool_20 rfl rfl ?_
  refine G4_pools hw C wd_7_6 dX4_readsPool_21 ?_
  rw [show yA.1 (24 + 5 * w) = nI j from hjA]
  refine L_heights hw C (v := less1 (dgt c n (p) 1 9)) (by omega) ((congrFun haA j).trans upd_eq) dX4_readsPool_24 ?_
  refine J_bipush C (v := (-9)) dX4_readsPool_25 (by decide) ?_
  refine J_icmp_ne C (tgt := 32) dX4_readsPool_27 (by decide) (fun c27 => ?_) (fun c27 => ?_)
  · skip
    have z1 : dgt c n (p) 1 9 ≠ 0 := fun e => c27 (by rw [e]; rfl)
    rw [adv1 z1] at hdA
    refine J_aload_n C dX4_readsPool_32 rfl rfl ?_
    refine G4_depths hw C wd_3_10 dX4_readsPool_33 ?_
    refine J_aload_n C dX4_readsPool_36 rfl rfl ?_
    refine G4_pools hw C wd_7_6 dX4_readsPool_37 ?_
    rw [show yA.1 (24 + 5 * w) = nI j from hjA]
    refine J_aload_n C dX4_readsPool_40 rfl rfl ?_
    refine J_iconst C (v := nI 1) dX4_readsPool_41 (by decide) ?_
    refine J_bipush C (v := nI 9) dX4_readsPool_42 (by decide) ?_
    refine J_callVi C (q0 := 10) (ci := 0) (N := 4) (As := [.int (nI 1), .int (nI 9)]) (c_X0_digit l Z _ hk hin hdA _ _ (by omega) (by omega)) cw_RX4_63 wd_6_23 wd_7_0 rfl rfl rfl rfl (Nat.le_of_ble_eq_true rfl) rfl rfl (Nat.le_of_ble_eq_true rfl) (Nat.le_of_ble_eq_true rfl) dX4_readsPool_44 (fun r44 x44 hp44 => ?_)
    obtain ⟨rfl, hf44, hd44⟩ := hp44
    refine S_depths hw C (by omega) dX4_readsPool_47 ?_
    have hdB : Rd (setA x44 (27 + 6 * w) (upd (x44.2.1 (27 + 6 * w)) j (less1 (dgt c n (p + 1) 1 9)))) k i n c (p + 1 + adv (dgt c n (p + 1) 1 9)) := hd44.arr (by omega) hk
    have hgB : FG 0 0 (26 + 6 * w) (28 + 6 * w) x (setA x44 (27 + 6 * w) (upd (x44.2.1 (27 + 6 * w)) j (less1 (dgt c n (p + 1) 1 9)))) := (hgA.tr hf44.g).tr (FG.arr (by omega) (by omega))
    have hjB : ((setA x44 (27 + 6 * w) (upd (x44.2.1 (27 + 6 * w)) j (less1 (dgt c n (p + 1) 1 9))))).1 (24 + 5 * w) = nI j := (hf44.2 _ (by omega)).trans hjA
    have haB : ((setA x44 (27 + 6 * w) (upd (x44.2.1 (27 + 6 * w)) j (less1 (dgt c n (p + 1) 1 9))))).2.1 (27 + 6 * w) = upd (x.2.1 (27 + 6 * w)) j (less1 (dgt c n (p + 1) 1 9)) := sA_eq.trans (by rw [hf44.1, haO])
    have haA2 : ((setA x44 (27 + 6 * w) (upd (x44.2.1 (27 + 6 * w)) j (less1 (dgt c n (p + 1) 1 9))))).2.1 (26 + 6 * w) = upd (x.2.1 (26 + 6 * w)) j (less1 (dgt c n (p) 1 9)) := (sA_ne (by omega)).trans (by rw [hf44.1]; exact haA)
    generalize setA x44 (27 + 6 * w) (upd (x44.2.1 (27 + 6 * w)) j (less1 (dgt c n (p + 1) 1 9))) = yB at hdB hgB hjB haB haA2 ⊢
    refine J_aload_n C dX4_readsPool_48 rfl rfl ?_
    refine G4_depths hw C wd_3_10 dX4_readsPool_49 ?_
    refine J_aload_n C dX4_readsPool_52 rfl rfl ?_
    refine G4_pools hw C wd_7_6 dX4_readsPool_53 ?_
    rw [show yB.1 (24 + 5 * w) = nI j from hjB]
    refine L_depths hw C (v := less1 (dgt c n (p + 1) 1 9)) (by omega) ((congrFun haB j).trans upd_eq) dX4_readsPool_56 ?_
    refine J_bipush C (v := (-9)) dX4_readsPool_57 (by decide) ?_
    refine J_icmp_eq C (tgt := 66) dX4_readsPool_59 (by decide) (fun c59 => ?_) (fun c59 => ?_)
    · skip
      have z2 : dgt c n (p + 1) 1 9 = 0 := less1_eq c59 (by have : dgt c n (p + 1) 1 9 ≤ 10 := dgt_le; omega)
      refine J_iconst C (v := nI 0) dX4_readsPool_66 (by decide) ?_
      exact E (b := false) dX4_readsPool_67 (⟨hgB, Or.inr (Or.inl ⟨rfl, z1, z2, by rw [adv_z z2] at hdB; exact hdB⟩)⟩)
    · skip
      have z2 : dgt c n (p + 1) 1 9 ≠ 0 := fun e => c59 (by rw [e]; rfl)
      rw [adv1 z2] at hdB
      refine J_iconst C (v := nI 1) dX4_readsPool_62 (by decide) ?_
      refine J_goto (tgt := 67) C dX4_readsPool_63 (by decide) ?_
      exact E (b := true) dX4_readsPool_67 (⟨hgB, Or.inr (Or.inr ⟨rfl, z1, z2, hdB, by rw [haA2, less1_n z1], by rw [haB, less1_n z2]⟩)⟩)
  · skip
    have z1 : dgt c n (p) 1 9 = 0 := less1_eq c27 (by have : dgt c n (p) 1 9 ≤ 10 := dgt_le; omega)
    refine J_iconst C (v := nI 0) dX4_readsPool_30 (by decide) ?_
    exact E (b := false) dX4_readsPool_31 (⟨hgA, Or.inl ⟨rfl, z1, by rw [adv_z z1] at hdA; exact hdA⟩⟩)
def rm_X4_readsPools : Room := ({ frames := 3, cells := 0, slots := 0, locals := 66 })
set_option maxRecDepth 20000 in
theorem c_X4_readsPools (l : Launch) (Z : EC) (x : St) {w : Nat} (hw : w < 2) {k i n : Nat} {c : Nat → Int32} (hk : k < 4) (hin : i + n ≤ 60) (hd : Rd x k i n c 4)  : MIz l Z (wC Z) yX4_readsPools cX4_readsPools 2 rm_X4_readsPools [.ref (Z.2.1 (25 + 6 * w)), .ref (Z.2.1 10)] x (fun b x1 => FG (24 + 5 * w) (25 + 5 * w) (26 + 6 * w) (28 + 6 * w) x x1 ∧ ((b = false ∧ plF c n ≠ 0 ∧ Rd x1 k i n c (plF c n - 1)) ∨ (b = true ∧ plF c n = 0 ∧ Rd x1 k i n c (4 + 3 * nP c n) ∧ x1.1 (24 + 5 * w) = nI (nP c n) ∧ (∀ q, q < nP c n → x1.2.1 (26 + 6 * w) q = nI (dgt c n (4 + 3 * q + 1) 1 9 - 1)) ∧ ∀ q, q < nP c n → x1.2.1 (27 + 6 * w) q = nI (dgt c n (4 + 3 * q + 1 + 1) 1 9 - 1)))) := by
  refine MIz_of (own := RX4) (L0 := [some (.ref (Z.2.1 (25 + 6 * w))), some (.ref (Z.2.1 10))]) (by decide) rfl (Nat.le_of_ble_eq_true rfl) ⟨rfl, rfl, trivial⟩ ?_
  intro Γ C E
  refine J_aload_n C dX4_readsPools_0 rfl rfl ?_
  refine J_iconst C (v := nI 0) dX4_readsPools_1 (by decide) ?_
  refine P4_pools hw C wd_7_6 dX4_readsPools_2 ?_
  have lp5 : ∀ (f : Nat) (j : Nat) (y : St), (j ≤ 6) → (¬ fst (badP c n) j < j) → (FG (24 + 5 * w) (25 + 5 * w) (26 + 6 * w) (28 + 6 * w) x y) → (Rd y k i n c (4 + 3 * j)) → (y.1 (24 + 5 * w) = nI j) → (∀ q, q < j → y.2.1 (26 + 6 * w) q = nI (dgt c n (4 + 3 * q + 1) 1 9 - 1)) → (∀ q, q < j → y.2.1 (27 + 6 * w) q = nI (dgt c n (4 + 3 * q + 1 + 1) 1 9 - 1)) → (7 - j < f) →  J Γ y 5 [some (.ref (Z.2.1 (25 + 6 * w))), some (.ref (Z.2.1 10))] [] := by
    intro f
    induction f with
    | zero =>
      intro j y hj hv hyg hyd hyp hya hyb hf
      omega
    | succ f ih5 =>
      intro j y hj hv hyg hyd hyp hya hyb hf
      refine J_aload_n C dX4_readsPools_5 rfl rfl ?_
      refine G4_pools hw C wd_7_6 dX4_readsPools_6 ?_
      rw [show y.1 (24 + 5 * w) = nI j from hyp]
      refine J_bipush C (v := nI 6) dX4_readsPools_9 (by decide) ?_
      refine J_icmp_ge_n C (tgt := 46) dX4_readsPools_11 (by decide) (by omega) (by omega) (fun c11 => ?_) (fun c11 => ?_)
      · skip
        have hP := nP_6 hv (show j = 6 by omega)
        have hG : plF c n = (if j < 2 then 4 + 3 * j + 1 else 0) := by unfold plF; rw [hP]; exact plG_s (fun h => absurd h (by omega))
        refine J_aload_n C dX4_readsPools_46 rfl rfl ?_
        refine G4_pools hw C wd_7_6 dX4_readsPools_47 ?_
        rw [show y.1 (24 + 5 * w) = nI j from hyp]
        refine J_iconst C (v := nI 2) dX4_readsPools_50 (by decide) ?_
        refine J_icmp_lt_n C (tgt := 58) dX4_readsPools_51 (by decide) (by omega) (by omega) (fun c51 => ?_) (fun c51 => ?_)
        · skip
          rw [if_pos c51] at hG
          refine J_iconst C (v := nI 0) dX4_readsPools_58 (by decide) ?_
          exact E (b := false) dX4_readsPools_59 (⟨hyg, Or.inl ⟨rfl, by rw [hG]; omega, by rw [hG]; exact hyd⟩⟩)
        · skip
          rw [if_neg (by omega)] at hG
          refine J_iconst C (v := nI 1) dX4_readsPools_54 (by decide) ?_
          refine J_goto (tgt := 59) C dX4_readsPools_55 (by decide) ?_
          exact E (b := true) dX4_readsPools_59 (⟨hyg, Or.inr ⟨rfl, hG, by rw [hP]; exact hyd, by rw [hP]; exact hyp, by rw [hP]; exact hya, by rw [hP]; exact hyb⟩⟩)
      · skip
        refine J_aload_n C dX4_readsPools_14 rfl rfl ?_
        refine J_bipush C (v := nI 44) dX4_readsPools_15 (by decide) ?_
        refine J_callVz C (q0 := 10) (ci := 0) (N := 4) (As := [.int (nI 44)]) (c_X0_takes l Z _ hk hin hyd _ (by omega)) cw_RX4_59 wd_6_14 wd_6_15 rfl rfl rfl rfl (Nat.le_of_ble_eq_true rfl) rfl rfl (Nat.le_of_ble_eq_true rfl) (Nat.le_of_ble_eq_true rfl) dX4_readsPools_17 (fun b17 x17 hp17 => ?_)
        rcases hp17 with ⟨rfl, hs17, rfl⟩ | ⟨rfl, hs17, hf17, hd17⟩
        · skip
          have hP := nP_hit hv (by omega) (badP_s hs17)
          have hG : plF c n = (if j < 2 then 4 + 3 * j + 1 else 0) := by unfold plF; rw [hP]; exact plG_s (fun _ => hs17)
          refine J_if_eq_b C (tgt := 46) dX4_readsPools_20 (by decide) (fun c20 => ?_) (fun c20 => absurd c20 (by decide))
          refine J_aload_n C dX4_readsPools_46 rfl rfl ?_
          refine G4_pools hw C wd_7_6 dX4_readsPools_47 ?_
          rw [show y.1 (24 + 5 * w) = nI j from hyp]
          refine J_iconst C (v := nI 2) dX4_readsPools_50 (by decide) ?_
          refine J_icmp_lt_n C (tgt := 58) dX4_readsPools_51 (by decide) (by omega) (by omega) (fun c51 => ?_) (fun c51 => ?_)
          · skip
            rw [if_pos c51] at hG
            refine J_iconst C (v := nI 0) dX4_readsPools_58 (by decide) ?_
            exact E (b := false) dX4_readsPools_59 (⟨hyg, Or.inl ⟨rfl, by rw [hG]; omega, by rw [hG]; exact hyd⟩⟩)
          · skip
            rw [if_neg (by omega)] at hG
            refine J_iconst C (v := nI 1) dX4_readsPools_54 (by decide) ?_
            refine J_goto (tgt := 59) C dX4_readsPools_55 (by decide) ?_
            exact E (b := true) dX4_readsPools_59 (⟨hyg, Or.inr ⟨rfl, hG, by rw [hP]; exact hyd, by rw [hP]; exact hyp, by rw [hP]; exact hya, by rw [hP]; exact hyb⟩⟩)
        · skip
          refine J_if_eq_b C (tgt := 46) dX4_readsPools_20 (by decide) (fun c20 => absurd c20 (by decide)) (fun c20 => ?_)
          have hj17 : x17.1 (24 + 5 * w) = nI j := (hf17.2 _ (by omega)).trans hyp
          refine J_aload_n C dX4_readsPools_23 rfl rfl ?_
          refine J_aload_n C dX4_readsPools_24 rfl rfl ?_
          refine J_callVz C (N := 10) (As := [.ref (Z.2.1 10)]) (c_X4_readsPool l Z _ hw hk hin hd17 (show j < 6 by omega) hj17) cw_RX4_67 wd_7_8 wd_7_9 (at_shore hw) rfl rfl rfl (Nat.le_of_ble_eq_true rfl) rfl rfl (Nat.le_of_ble_eq_true rfl) (Nat.le_of_ble_eq_true rfl) dX4_readsPools_25 (fun b25 x25 hp25 => ?_)
          obtain ⟨hg25, hp25⟩ := hp25
          rcases hp25 with ⟨rfl, hz25, hd25⟩ | ⟨rfl, hz25, hy25, hd25⟩ | ⟨rfl, hz25, hy25, hd25, ha25, hb25⟩
          · skip
            have hP := nP_hit hv (by omega) (badP_1 hz25)
            have hG : plF c n = 4 + 3 * j + 1 + 1 := by unfold plF; rw [hP]; exact plG_1 (by omega) hs17 hz25
            refine J_if_ne_b C (tgt := 33) dX4_readsPools_28 (by decide) (fun c28 => absurd c28 (by decide)) (fun c28 => ?_)
            refine J_iconst C (v := nI 0) dX4_readsPools_31 (by decide) ?_
            exact E (b := false) dX4_readsPools_32 (⟨hyg.tr (hf17.g.tr (hg25.w (fun u hu => by omega) (fun u hu => by omega))), Or.inl ⟨rfl, by rw [hG]; omega, by rw [hG]; exact hd25⟩⟩)
          · skip
            have hP := nP_hit hv (by omega) (badP_2 hy25)
            have hG : plF c n = 4 + 3 * j + 1 + 1 + 1 := by unfold plF; rw [hP]; exact plG_2 (by omega) hs17 hz25
            refine J_if_ne_b C (tgt := 33) dX4_readsPools_28 (by decide) (fun c28 => absurd c28 (by decide)) (fun c28 => ?_)
            refine J_iconst C (v := nI 0) dX4_readsPools_31 (by decide) ?_
            exact E (b := false) dX4_readsPools_32 (⟨hyg.tr (hf17.g.tr (hg25.w (fun u hu => by omega) (fun u hu => by omega))), Or.inl ⟨rfl, by rw [hG]; omega, by rw [hG]; exact hd25⟩⟩)
          · skip
            refine J_if_ne_b C (tgt := 33) dX4_readsPools_28 (by decide) (fun c28 => ?_) (fun c28 => absurd c28 (by decide))
            have hj25 : x25.1 (24 + 5 * w) = nI j := (hg25.2.1 _ (by omega) (by omega)).trans hj17
            refine J_aload_n C dX4_readsPools_33 rfl rfl ?_
            refine J_dup C dX4_readsPools_34 rfl ?_
            refine G4_pools hw C wd_7_6 dX4_readsPools_35 ?_
            rw [show x25.1 (24 + 5 * w) = nI j from hj25]
            refine J_iconst C (v := nI 1) dX4_readsPools_38 (by decide) ?_
            refine J_iadd C (v := nI (j + 1)) dX4_readsPools_39 (nI_add _ _) ?_
            refine P4_pools hw C wd_7_6 dX4_readsPools_40 ?_
            refine J_goto (tgt := 5) C dX4_readsPools_43 (by decide) ?_
            refine J_drop ?_ (ih5 (j + 1) (setI x25 (24 + 5 * w) (nI (j + 1))) (by omega) (fst_go hv (badP_n hs17 hz25 hy25)) ((hyg.tr (hf17.g.tr (hg25.w (fun u hu => by omega) (fun u hu => by omega)))).tr (FG.int (by omega) (by omega))) (hd25.int (by omega)) sI_eq (updN hya (ha25.trans (by rw [hf17.1])) rfl) (updN hyb (hb25.trans (by rw [hf17.1])) rfl) (by omega))
            exact ⟨rfl, rfl, trivial⟩
  refine J_drop ?_ (lp5 8 0 (setI x (24 + 5 * w) (nI 0)) (by omega) (Nat.not_lt_zero _) (FG.int (by omega) (by omega)) (hd.int (by omega)) sI_eq (fun q hq => absurd hq (Nat.not_lt_zero q)) (fun q hq => absurd hq (Nat.not_lt_zero q)) (by omega))
  exact ⟨rfl, rfl, trivial⟩
def rm_X4_readsMember : Room := ({ frames := 3, cells := 0, slots := 0, locals := 61 })
set_option maxRecDepth 20000 in
theorem c_X4_readsMember (l : Launch) (Z : EC) (x : St) {w : Nat} (hw : w < 2) {k i n p : Nat} {c : Nat → Int32} (hk : k < 4) (hin : i + n ≤ 60) (hd : Rd x k i n c p) {j P : Nat} (hj : j < 6) (hP2 : 2 ≤ P) (hP6 : P ≤ 6) (hpj : x.1 (25 + 5 * w) = nI j) (hP0 : x.1 (24 + 5 * w) = nI P) : MIz l Z (wC Z) yX4_readsMember cX4_readsMember 2 rm_X4_readsMember [.ref (Z.2.1 (25 + 6 * w)), .ref (Z.2.1 10)] x (fun b x1 => FG 0 0 (28 + 6 * w) (31 + 6 * w) x x1 ∧ ((b = false ∧ knd c n p = 0 ∧ Rd x1 k i n c p) ∨ (b = false ∧ knd c n p ≠ 0 ∧ dgt c n (p + 1) 0 (P - 1) = 0 ∧ Rd x1 k i n c (p + 1)) ∨ (b = false ∧ knd c n p ≠ 0 ∧ dgt c n (p + 1) 0 (P - 1) ≠ 0 ∧ dgt c n (p + 1 + 1) 0 9 = 0 ∧ Rd x1 k i n c (p + 1 + 1)) ∨ (b = true ∧ knd c n p ≠ 0 ∧ dgt c n (p + 1) 0 (P - 1) ≠ 0 ∧ dgt c n (p + 1 + 1) 0 9 ≠ 0 ∧ Rd x1 k i n c (p + 1 + 1 + 1) ∧ x1.2.1 (28 + 6 * w) = upd (x.2.1 (28 + 6 * w)) j (nI (knd c n p - 1)) ∧ x1.2.1 (29 + 6 * w) = upd (x.2.1 (29 + 6 * w)) j (nI (dgt c n (p + 1) 0 (P - 1) - 1)) ∧ x1.2.1 (30 + 6 * w) = upd (x.2.1 (30 + 6 * w)) j (nI (dgt c n (p + 1 + 1) 0 9 - 1))))) := by
  refine MIz_of (own := RX4) (L0 := [some (.ref (Z.2.1 (25 + 6 * w))), some (.ref (Z.2.1 10))]) (by decide) rfl (Nat.le_of_ble_eq_true rfl) ⟨rfl, rfl, trivial⟩ ?_
  intro Γ C E
  refine J_aload_n C dX4_readsMember_0 rfl rfl ?_
  refine G4_kindOf hw C wd_3_11 dX4_readsMember_1 ?_
  refine J_aload_n C dX4_readsMember_4 rfl rfl ?_
  refine G4_members hw C wd_7_15 dX4_readsMember_5 ?_
  rw [show x.1 (25 + 5 * w) = nI j from hpj]
  refine J_aload_n C dX4_readsMember_8 rfl rfl ?_
  refine J_callVi C (q0 := 10) (ci := 0) (N := 4) (As := []) (c_X0_kind l Z _ hk hin hd) cw_RX4_73 wd_7_21 wd_7_22 rfl rfl rfl rfl (Nat.le_of_ble_eq_true rfl) rfl rfl (Nat.le_of_ble_eq_true rfl) (Nat.le_of_ble_eq_true rfl) dX4_readsMember_9 (fun r9 x9 hp9 => ?_)
  obtain ⟨rfl, hf9, hd9⟩ := hp9
  refine S_kindOf hw C (by omega) dX4_readsMember_12 ?_
  have hdA : Rd (setA x9 (28 + 6 * w) (upd (x9.2.1 (28 + 6 * w)) j (less1 (knd c n p)))) k i n c (p + adv (knd c n p)) := hd9.arr (by omega) hk
  have hgA : FG 0 0 (28 + 6 * w) (31 + 6 * w) x (setA x9 (28 + 6 * w) (upd (x9.2.1 (28 + 6 * w)) j (less1 (knd c n p)))) := ((FG.rf (a := 0) (b := 0) (c := 28 + 6 * w) (d := 31 + 6 * w) (x := x)).tr hf9.g).tr (FG.arr (by omega) (by omega))
  have hjA : ((setA x9 (28 + 6 * w) (upd (x9.2.1 (28 + 6 * w)) j (less1 (knd c n p))))).1 (25 + 5 * w) = nI j := (hf9.2 _ (by omega)).trans hpj
  have haA : ((setA x9 (28 + 6 * w) (upd (x9.2.1 (28 + 6 * w)) j (less1 (knd c n p))))).2.1 (28 + 6 * w) = upd (x.2.1 (28 + 6 * w)) j (less1 (knd c n p)) := sA_eq.trans (by rw [hf9.1])
  have haO : ((setA x9 (28 + 6 * w) (upd (x9.2.1 (28 + 6 * w)) j (less1 (knd c n p))))).2.1 (29 + 6 * w) = x.2.1 (29 + 6 * w) := (sA_ne (by omega)).trans (by rw [hf9.1])
  have haO3 : ((setA x9 (28 + 6 * w) (upd (x9.2.1 (28 + 6 * w)) j (less1 (knd c n p))))).2.1 (30 + 6 * w) = x.2.1 (30 + 6 * w) := (sA_ne (by omega)).trans (by rw [hf9.1])
  have hPA : ((setA x9 (28 + 6 * w) (upd (x9.2.1 (28 + 6 * w)) j (less1 (knd c n p))))).1 (24 + 5 * w) = nI P := (hf9.2 _ (by omega)).trans hP0
  generalize setA x9 (28 + 6 * w) (upd (x9.2.1 (28 + 6 * w)) j (less1 (knd c n p))) = yA at hdA hgA hjA haA haO haO3 hPA ⊢
  refine J_aload_n C dX4_readsMember_13 rfl rfl ?_
  refine G4_kindOf hw C wd_3_11 dX4_readsMember_14 ?_
  refine J_aload_n C dX4_readsMember_17 rfl rfl ?_
  refine G4_members hw C wd_7_15 dX4_readsMember_18 ?_
  rw [show yA.1 (25 + 5 * w) = nI j from hjA]
  refine L_kindOf hw C (v := less1 (knd c n p)) (by omega) ((congrFun haA j).trans upd_eq) dX4_readsMember_21 ?_
  refine J_bipush C (v := (-9)) dX4_readsMember_22 (by decide) ?_
  refine J_icmp_ne C (tgt := 29) dX4_readsMember_24 (by decide) (fun c24 => ?_) (fun c24 => ?_)
  · skip
    have z1 : knd c n p ≠ 0 := fun e => c24 (by rw [e]; rfl)
    rw [adv1 z1] at hdA
    refine J_aload_n C dX4_readsMember_29 rfl rfl ?_
    refine G4_seats hw C wd_3_12 dX4_readsMember_30 ?_
    refine J_aload_n C dX4_readsMember_33 rfl rfl ?_
    refine G4_members hw C wd_7_15 dX4_readsMember_34 ?_
    rw [show yA.1 (25 + 5 * w) = nI j from hjA]
    refine J_aload_n C dX4_readsMember_37 rfl rfl ?_
    refine J_iconst C (v := nI 0) dX4_readsMember_38 (by decide) ?_
    refine J_aload_n C dX4_readsMember_39 rfl rfl ?_
    refine G4_pools hw C wd_7_6 dX4_readsMember_40 ?_
    rw [show yA.1 (24 + 5 * w) = nI P from hPA]
    refine J_iconst C (v := nI 1) dX4_readsMember_43 (by decide) ?_
    refine J_isub C (v := nI (P - 1)) dX4_readsMember_44 (pk_sub (a := P) (b := 1) (by omega)) ?_
    refine J_callVi C (q0 := 10) (ci := 0) (N := 4) (As := [.int (nI 0), .int (nI (P - 1))]) (c_X0_digit l Z _ hk hin hdA _ _ (by omega) (by omega)) cw_RX4_63 wd_6_23 wd_7_0 rfl rfl rfl rfl (Nat.le_of_ble_eq_true rfl) rfl rfl (Nat.le_of_ble_eq_true rfl) (Nat.le_of_ble_eq_true rfl) dX4_readsMember_45 (fun r45 x45 hp45 => ?_)
    obtain ⟨rfl, hf45, hd45⟩ := hp45
    refine S_seats hw C (by omega) dX4_readsMember_48 ?_
    have hdB : Rd (setA x45 (29 + 6 * w) (upd (x45.2.1 (29 + 6 * w)) j (less1 (dgt c n (p + 1) 0 (P - 1))))) k i n c (p + 1 + adv (dgt c n (p + 1) 0 (P - 1))) := hd45.arr (by omega) hk
    have hgB : FG 0 0 (28 + 6 * w) (31 + 6 * w) x (setA x45 (29 + 6 * w) (upd (x45.2.1 (29 + 6 * w)) j (less1 (dgt c n (p + 1) 0 (P - 1))))) := (hgA.tr hf45.g).tr (FG.arr (by omega) (by omega))
    have hjB : ((setA x45 (29 + 6 * w) (upd (x45.2.1 (29 + 6 * w)) j (less1 (dgt c n (p + 1) 0 (P - 1)))))).1 (25 + 5 * w) = nI j := (hf45.2 _ (by omega)).trans hjA
    have haB : ((setA x45 (29 + 6 * w) (upd (x45.2.1 (29 + 6 * w)) j (less1 (dgt c n (p + 1) 0 (P - 1)))))).2.1 (29 + 6 * w) = upd (x.2.1 (29 + 6 * w)) j (less1 (dgt c n (p + 1) 0 (P - 1))) := sA_eq.trans (by rw [hf45.1, haO])
    have haA2 : ((setA x45 (29 + 6 * w) (upd (x45.2.1 (29 + 6 * w)) j (less1 (dgt c n (p + 1) 0 (P - 1)))))).2.1 (28 + 6 * w) = upd (x.2.1 (28 + 6 * w)) j (less1 (knd c n p)) := (sA_ne (by omega)).trans (by rw [hf45.1]; exact haA)
    have haO4 : ((setA x45 (29 + 6 * w) (upd (x45.2.1 (29 + 6 * w)) j (less1 (dgt c n (p + 1) 0 (P - 1)))))).2.1 (30 + 6 * w) = x.2.1 (30 + 6 * w) := (sA_ne (by omega)).trans (by rw [hf45.1]; exact haO3)
    have hPB : ((setA x45 (29 + 6 * w) (upd (x45.2.1 (29 + 6 * w)) j (less1 (dgt c n (p + 1) 0 (P - 1)))))).1 (24 + 5 * w) = nI P := (hf45.2 _ (by omega)).trans hPA
    generalize setA x45 (29 + 6 * w) (upd (x45.2.1 (29 + 6 * w)) j (less1 (dgt c n (p + 1) 0 (P - 1)))) = yB at hdB hgB hjB haB haA2 haO4 hPB ⊢
    refine J_aload_n C dX4_readsMember_49 rfl rfl ?_
    refine G4_seats hw C wd_3_12 dX4_readsMember_50 ?_
    refine J_aload_n C dX4_readsMember_53 rfl rfl ?_
    refine G4_members hw C wd_7_15 dX4_readsMember_54 ?_
    rw [show yB.1 (25 + 5 * w) = nI j from hjB]
    refine L_seats hw C (v := less1 (dgt c n (p + 1) 0 (P - 1))) (by omega) ((congrFun haB j).trans upd_eq) dX4_readsMember_57 ?_
    refine J_bipush C (v := (-9)) dX4_readsMember_58 (by decide) ?_
    refine J_icmp_ne C (tgt := 65) dX4_readsMember_60 (by decide) (fun c60 => ?_) (fun c60 => ?_)
    · skip
      have z2 : dgt c n (p + 1) 0 (P - 1) ≠ 0 := fun e => c60 (by rw [e]; rfl)
      rw [adv1 z2] at hdB
      refine J_aload_n C dX4_readsMember_65 rfl rfl ?_
      refine G4_views hw C wd_3_13 dX4_readsMember_66 ?_
      refine J_aload_n C dX4_readsMember_69 rfl rfl ?_
      refine G4_members hw C wd_7_15 dX4_readsMember_70 ?_
      rw [show yB.1 (25 + 5 * w) = nI j from hjB]
      refine J_aload_n C dX4_readsMember_73 rfl rfl ?_
      refine J_iconst C (v := nI 0) dX4_readsMember_74 (by decide) ?_
      refine J_bipush C (v := nI 9) dX4_readsMember_75 (by decide) ?_
      refine J_callVi C (q0 := 10) (ci := 0) (N := 4) (As := [.int (nI 0), .int (nI 9)]) (c_X0_digit l Z _ hk hin hdB _ _ (by omega) (by omega)) cw_RX4_63 wd_6_23 wd_7_0 rfl rfl rfl rfl (Nat.le_of_ble_eq_true rfl) rfl rfl (Nat.le_of_ble_eq_true rfl) (Nat.le_of_ble_eq_true rfl) dX4_readsMember_77 (fun r77 x77 hp77 => ?_)
      obtain ⟨rfl, hf77, hd77⟩ := hp77
      refine S_views hw C (by omega) dX4_readsMember_80 ?_
      have hdC : Rd (setA x77 (30 + 6 * w) (upd (x77.2.1 (30 + 6 * w)) j (less1 (dgt c n (p + 1 + 1) 0 9)))) k i n c (p + 1 + 1 + adv (dgt c n (p + 1 + 1) 0 9)) := hd77.arr (by omega) hk
      have hgC : FG 0 0 (28 + 6 * w) (31 + 6 * w) x (setA x77 (30 + 6 * w) (upd (x77.2.1 (30 + 6 * w)) j (less1 (dgt c n (p + 1 + 1) 0 9)))) := (hgB.tr hf77.g).tr (FG.arr (by omega) (by omega))
      have hjC : ((setA x77 (30 + 6 * w) (upd (x77.2.1 (30 + 6 * w)) j (less1 (dgt c n (p + 1 + 1) 0 9))))).1 (25 + 5 * w) = nI j := (hf77.2 _ (by omega)).trans hjB
      have haC : ((setA x77 (30 + 6 * w) (upd (x77.2.1 (30 + 6 * w)) j (less1 (dgt c n (p + 1 + 1) 0 9))))).2.1 (30 + 6 * w) = upd (x.2.1 (30 + 6 * w)) j (less1 (dgt c n (p + 1 + 1) 0 9)) := sA_eq.trans (by rw [hf77.1, haO4])
      have haA3 : ((setA x77 (30 + 6 * w) (upd (x77.2.1 (30 + 6 * w)) j (less1 (dgt c n (p + 1 + 1) 0 9))))).2.1 (28 + 6 * w) = upd (x.2.1 (28 + 6 * w)) j (less1 (knd c n p)) := (sA_ne (by omega)).trans (by rw [hf77.1]; exact haA2)
      have haB2 : ((setA x77 (30 + 6 * w) (upd (x77.2.1 (30 + 6 * w)) j (less1 (dgt c n (p + 1 + 1) 0 9))))).2.1 (29 + 6 * w) = upd (x.2.1 (29 + 6 * w)) j (less1 (dgt c n (p + 1) 0 (P - 1))) := (sA_ne (by omega)).trans (by rw [hf77.1]; exact haB)
      have hPC : ((setA x77 (30 + 6 * w) (upd (x77.2.1 (30 + 6 * w)) j (less1 (dgt c n (p + 1 + 1) 0 9))))).1 (24 + 5 * w) = nI P := (hf77.2 _ (by omega)).trans hPB
      generalize setA x77 (30 + 6 * w) (upd (x77.2.1 (30 + 6 * w)) j (less1 (dgt c n (p + 1 + 1) 0 9))) = yC at hdC hgC hjC haC haA3 haB2 hPC ⊢
      refine J_aload_n C dX4_readsMember_81 rfl rfl ?_
      refine G4_views hw C wd_3_13 dX4_readsMember_82 ?_
      refine J_aload_n C dX4_readsMember_85 rfl rfl ?_
      refine G4_members hw C wd_7_15 dX4_readsMember_86 ?_
      rw [show yC.1 (25 + 5 * w) = nI j from hjC]
      refine L_views hw C (v := less1 (dgt c n (p + 1 + 1) 0 9)) (by omega) ((congrFun haC j).trans upd_eq) dX4_readsMember_89 ?_
      refine J_bipush C (v := (-9)) dX4_readsMember_90 (by decide) ?_
      refine J_icmp_eq C (tgt := 99) dX4_readsMember_92 (by decide) (fun c92 => ?_) (fun c92 => ?_)
      · skip
        have z3 : dgt c n (p + 1 + 1) 0 9 = 0 := less1_eq c92 (by have : dgt c n (p + 1 + 1) 0 9 ≤ 10 := dgt_le; omega)
        refine J_iconst C (v := nI 0) dX4_readsMember_99 (by decide) ?_
        exact E (b := false) dX4_readsMember_100 (⟨hgC, Or.inr (Or.inr (Or.inl ⟨rfl, z1, z2, z3, by rw [adv_z z3] at hdC; exact hdC⟩))⟩)
      · skip
        have z3 : dgt c n (p + 1 + 1) 0 9 ≠ 0 := fun e => c92 (by rw [e]; rfl)
        rw [adv1 z3] at hdC
        refine J_iconst C (v := nI 1) dX4_readsMember_95 (by decide) ?_
        refine J_goto (tgt := 100) C dX4_readsMember_96 (by decide) ?_
        exact E (b := true) dX4_readsMember_100 (⟨hgC, Or.inr (Or.inr (Or.inr ⟨rfl, z1, z2, z3, hdC, by rw [haA3, less1_n z1], by rw [haB2, less1_n z2], by rw [haC, less1_n z3]⟩))⟩)
    · skip
      have z2 : dgt c n (p + 1) 0 (P - 1) = 0 := less1_eq c60 (by have : dgt c n (p + 1) 0 (P - 1) ≤ P - 1 + 1 := dgt_le; omega)
      refine J_iconst C (v := nI 0) dX4_readsMember_63 (by decide) ?_
      exact E (b := false) dX4_readsMember_64 (⟨hgB, Or.inr (Or.inl ⟨rfl, z1, z2, by rw [adv_z z2] at hdB; exact hdB⟩)⟩)
  · skip
    have z1 : knd c n p = 0 := less1_eq c24 (by have : knd c n p ≤ 3 := knd_le; omega)
    refine J_iconst C (v := nI 0) dX4_readsMember_27 (by decide) ?_
    exact E (b := false) dX4_readsMember_28 (⟨hgA, Or.inl ⟨rfl, z1, by rw [adv_z z1] at hdA; exact hdA⟩⟩)
def rm_X4_readsMembers : Room := ({ frames := 4, cells := 0, slots := 0, locals := 82 })
set_option maxRecDepth 20000 in
theorem c_X4_readsMembers (l : Launch) (Z : EC) (x : St) {w : Nat} (hw : w < 2) {k i n P : Nat} {c : Nat → Int32} (hk : k < 4) (hin : i + n ≤ 60) (hd : Rd x k i n c (4 + 3 * P)) (hP2 : 2 ≤ P) (hP6 : P ≤ 6) (hP0 : x.1 (24 + 5 * w) = nI P) : MIz l Z (wC Z) yX4_readsMembers cX4_readsMembers 2 rm_X4_readsMembers [.ref (Z.2.1 (25 + 6 * w)), .ref (Z.2.1 10)] x (fun b x1 => FG (25 + 5 * w) (26 + 5 * w) (28 + 6 * w) (31 + 6 * w) x x1 ∧ ((b = false ∧ mbF c n P ≠ 0 ∧ Rd x1 k i n c (mbF c n P - 1)) ∨ (b = true ∧ mbF c n P = 0 ∧ Rd x1 k i n c (4 + 3 * P + 4 * nM c n P) ∧ x1.1 (25 + 5 * w) = nI (nM c n P) ∧ (∀ q, q < nM c n P → x1.2.1 (28 + 6 * w) q = nI (knd c n (4 + 3 * P + 4 * q + 1) - 1)) ∧ (∀ q, q < nM c n P → x1.2.1 (29 + 6 * w) q = nI (dgt c n (4 + 3 * P + 4 * q + 1 + 1) 0 (P - 1) - 1)) ∧ (∀ q, q < nM c n P → x1.2.1 (30 + 6 * w) q = nI (dgt c n (4 + 3 * P + 4 * q + 1 + 1 + 1) 0 9 - 1))))) := by
  refine MIz_of (own := RX4) (L0 := [some (.ref (Z.2.1 (25 + 6 * w))), some (.ref (Z.2.1 10))]) (by decide) rfl (Nat.le_of_ble_eq_true rfl) ⟨rfl, rfl, trivial⟩ ?_
  intro Γ C E
  refine J_aload_n C dX4_readsMembers_0 rfl rfl ?_
  refine J_iconst C (v := nI 0) dX4_readsMembers_1 (by decide) ?_
  refine P4_members hw C wd_7_15 dX4_readsMembers_2 ?_
  have lp5 : ∀ (f : Nat) (j : Nat) (y : St), (j ≤ 6) → (¬ fst (badM c n P) j < j) → (FG (25 + 5 * w) (26 + 5 * w) (28 + 6 * w) (31 + 6 * w) x y) → (Rd y k i n c (4 + 3 * P + 4 * j)) → (y.1 (25 + 5 * w) = nI j) → (∀ q, q < j → y.2.1 (28 + 6 * w) q = nI (knd c n (4 + 3 * P + 4 * q + 1) - 1)) → (∀ q, q < j → y.2.1 (29 + 6 * w) q = nI (dgt c n (4 + 3 * P + 4 * q + 1 + 1) 0 (P - 1) - 1)) → (∀ q, q < j → y.2.1 (30 + 6 * w) q = nI (dgt c n (4 + 3 * P + 4 * q + 1 + 1 + 1) 0 9 - 1)) → (7 - j < f) →  J Γ y 5 [some (.ref (Z.2.1 (25 + 6 * w))), some (.ref (Z.2.1 10))] [] := by
    intro f
    induction f with
    | zero =>
      intro j y hj hv hyg hyd hyp hy0 hy1 hy2 hf
      omega
    | succ f ih5 =>
      intro j y hj hv hyg hyd hyp hy0 hy1 hy2 hf
      refine J_aload_n C dX4_readsMembers_5 rfl rfl ?_
      refine G4_members hw C wd_7_15 dX4_readsMembers_6 ?_
      rw [show y.1 (25 + 5 * w) = nI j from hyp]
      refine J_bipush C (v := nI 6) dX4_readsMembers_9 (by decide) ?_
      refine J_icmp_ge_n C (tgt := 46) dX4_readsMembers_11 (by decide) (by omega) (by omega) (fun c11 => ?_) (fun c11 => ?_)
      · skip
        have hM := nM_6 hv (show j = 6 by omega)
        have hG : mbF c n P = (if j = 0 then 4 + 3 * P + 1 else 0) := by unfold mbF; rw [hM]; exact mbG_s (fun h => absurd h (by omega))
        refine J_aload_n C dX4_readsMembers_46 rfl rfl ?_
        refine G4_members hw C wd_7_15 dX4_readsMembers_47 ?_
        rw [show y.1 (25 + 5 * w) = nI j from hyp]
        refine J_if_le_n C (tgt := 57) dX4_readsMembers_50 (by decide) (by omega) (fun c50 => ?_) (fun c50 => ?_)
        · skip
          rw [if_pos (show j = 0 by omega)] at hG
          refine J_iconst C (v := nI 0) dX4_readsMembers_57 (by decide) ?_
          exact E (b := false) dX4_readsMembers_58 (⟨hyg, Or.inl ⟨rfl, by rw [hG]; omega, by rw [hG, show 4 + 3 * P + 1 - 1 = 4 + 3 * P + 4 * j by omega]; exact hyd⟩⟩)
        · skip
          rw [if_neg (show ¬ j = 0 by omega)] at hG
          refine J_iconst C (v := nI 1) dX4_readsMembers_53 (by decide) ?_
          refine J_goto (tgt := 58) C dX4_readsMembers_54 (by decide) ?_
          exact E (b := true) dX4_readsMembers_58 (⟨hyg, Or.inr ⟨rfl, hG, by rw [hM]; exact hyd, by rw [hM]; exact hyp, by rw [hM]; exact hy0, by rw [hM]; exact hy1, by rw [hM]; exact hy2⟩⟩)
      · skip
        refine J_aload_n C dX4_readsMembers_14 rfl rfl ?_
        refine J_bipush C (v := nI 59) dX4_readsMembers_15 (by decide) ?_
        refine J_callVz C (q0 := 10) (ci := 0) (N := 4) (As := [.int (nI 59)]) (c_X0_takes l Z _ hk hin hyd _ (by omega)) cw_RX4_59 wd_6_14 wd_6_15 rfl rfl rfl rfl (Nat.le_of_ble_eq_true rfl) rfl rfl (Nat.le_of_ble_eq_true rfl) (Nat.le_of_ble_eq_true rfl) dX4_readsMembers_17 (fun b17 x17 hp17 => ?_)
        rcases hp17 with ⟨rfl, hs17, rfl⟩ | ⟨rfl, hs17, hf17, hd17⟩
        · skip
          have hM := nM_hit hv (by omega) (badM_s hs17)
          have hG : mbF c n P = (if j = 0 then 4 + 3 * P + 1 else 0) := by unfold mbF; rw [hM]; exact mbG_s (fun _ => hs17)
          refine J_if_eq_b C (tgt := 46) dX4_readsMembers_20 (by decide) (fun c20 => ?_) (fun c20 => absurd c20 (by decide))
          refine J_aload_n C dX4_readsMembers_46 rfl rfl ?_
          refine G4_members hw C wd_7_15 dX4_readsMembers_47 ?_
          rw [show y.1 (25 + 5 * w) = nI j from hyp]
          refine J_if_le_n C (tgt := 57) dX4_readsMembers_50 (by decide) (by omega) (fun c50 => ?_) (fun c50 => ?_)
          · skip
            rw [if_pos (show j = 0 by omega)] at hG
            refine J_iconst C (v := nI 0) dX4_readsMembers_57 (by decide) ?_
            exact E (b := false) dX4_readsMembers_58 (⟨hyg, Or.inl ⟨rfl, by rw [hG]; omega, by rw [hG, show 4 + 3 * P + 1 - 1 = 4 + 3 * P + 4 * j by omega]; exact hyd⟩⟩)
          · skip
            rw [if_neg (show ¬ j = 0 by omega)] at hG
            refine J_iconst C (v := nI 1) dX4_readsMembers_53 (by decide) ?_
            refine J_goto (tgt := 58) C dX4_readsMembers_54 (by decide) ?_
            exact E (b := true) dX4_readsMembers_58 (⟨hyg, Or.inr ⟨rfl, hG, by rw [hM]; exact hyd, by rw [hM]; exact hyp, by rw [hM]; exact hy0, by rw [hM]; exact hy1, by rw [hM]; exact hy2⟩⟩)
        · skip
          refine J_if_eq_b C (tgt := 46) dX4_readsMembers_20 (by decide) (fun c20 => absurd c20 (by decide)) (fun c20 => ?_)
          have hj17 : x17.1 (25 + 5 * w) = nI j := (hf17.2 _ (by omega)).trans hyp
          have hP17 : x17.1 (24 + 5 * w) = nI P := (hf17.2 _ (by omega)).trans ((hyg.2.1 _ (by omega) (by omega)).trans hP0)
          refine J_aload_n C dX4_readsMembers_23 rfl rfl ?_
          refine J_aload_n C dX4_readsMembers_24 rfl rfl ?_
          refine J_callVz C (N := 10) (As := [.ref (Z.2.1 10)]) (c_X4_readsMember l Z _ hw hk hin hd17 (show j < 6 by omega) hP2 hP6 hj17 hP17) cw_RX4_70 wd_7_17 wd_7_18 (at_shore hw) rfl rfl rfl (Nat.le_of_ble_eq_true rfl) rfl rfl (Nat.le_of_ble_eq_true rfl) (Nat.le_of_ble_eq_true rfl) dX4_readsMembers_25 (fun b25 x25 hp25 => ?_)
          obtain ⟨hg25, hp25⟩ := hp25
          rcases hp25 with ⟨rfl, hz25, hd25⟩ | ⟨rfl, hz25, hy25, hd25⟩ | ⟨rfl, hz25, hy25, hx25, hd25⟩ | ⟨rfl, hz25, hy25, hx25, hd25, ha25, hb25, hc25⟩
          · skip
            have hM := nM_hit hv (by omega) (badM_1 hz25)
            have hQ : mbF c n P = _ := (by unfold mbF; rw [hM]; exact mbG_1 (P := P) (j := j) (by omega) hs17 hz25 : mbF c n P = 4 + 3 * P + 4 * j + 1 + 1)
            have hG : mbF c n P ≠ 0 := by rw [hQ]; omega
            have hE : Rd x25 k i n c (mbF c n P - 1) := by rw [hQ]; exact hd25
            refine J_if_ne_b C (tgt := 33) dX4_readsMembers_28 (by decide) (fun c28 => absurd c28 (by decide)) (fun c28 => ?_)
            refine J_iconst C (v := nI 0) dX4_readsMembers_31 (by decide) ?_
            exact E (b := false) dX4_readsMembers_32 (⟨hyg.tr (hf17.g.tr (hg25.w (fun u hu => by omega) (fun u hu => by omega))), Or.inl ⟨rfl, hG, hE⟩⟩)
          · skip
            have hM := nM_hit hv (by omega) (badM_2 hy25)
            have hQ : mbF c n P = _ := (by unfold mbF; rw [hM]; exact mbG_2 (P := P) (j := j) (by omega) hs17 hz25 hy25 : mbF c n P = 4 + 3 * P + 4 * j + 1 + 1 + 1)
            have hG : mbF c n P ≠ 0 := by rw [hQ]; omega
            have hE : Rd x25 k i n c (mbF c n P - 1) := by rw [hQ]; exact hd25
            refine J_if_ne_b C (tgt := 33) dX4_readsMembers_28 (by decide) (fun c28 => absurd c28 (by decide)) (fun c28 => ?_)
            refine J_iconst C (v := nI 0) dX4_readsMembers_31 (by decide) ?_
            exact E (b := false) dX4_readsMembers_32 (⟨hyg.tr (hf17.g.tr (hg25.w (fun u hu => by omega) (fun u hu => by omega))), Or.inl ⟨rfl, hG, hE⟩⟩)
          · skip
            have hM := nM_hit hv (by omega) (badM_3 hx25)
            have hQ : mbF c n P = _ := (by unfold mbF; rw [hM]; exact mbG_3 (P := P) (j := j) (by omega) hs17 hz25 hy25 : mbF c n P = 4 + 3 * P + 4 * j + 1 + 1 + 1 + 1)
            have hG : mbF c n P ≠ 0 := by rw [hQ]; omega
            have hE : Rd x25 k i n c (mbF c n P - 1) := by rw [hQ]; exact hd25
            refine J_if_ne_b C (tgt := 33) dX4_readsMembers_28 (by decide) (fun c28 => absurd c28 (by decide)) (fun c28 => ?_)
            refine J_iconst C (v := nI 0) dX4_readsMembers_31 (by decide) ?_
            exact E (b := false) dX4_readsMembers_32 (⟨hyg.tr (hf17.g.tr (hg25.w (fun u hu => by omega) (fun u hu => by omega))), Or.inl ⟨rfl, hG, hE⟩⟩)
          · skip
            refine J_if_ne_b C (tgt := 33) dX4_readsMembers_28 (by decide) (fun c28 => ?_) (fun c28 => absurd c28 (by decide))
            have hj25 : x25.1 (25 + 5 * w) = nI j := (hg25.2.1 _ (by omega) (by omega)).trans hj17
            refine J_aload_n C dX4_readsMembers_33 rfl rfl ?_
            refine J_dup C dX4_readsMembers_34 rfl ?_
            refine G4_members hw C wd_7_15 dX4_readsMembers_35 ?_
            rw [show x25.1 (25 + 5 * w) = nI j from hj25]
            refine J_iconst C (v := nI 1) dX4_readsMembers_38 (by decide) ?_
            refine J_iadd C (v := nI (j + 1)) dX4_readsMembers_39 (nI_add _ _) ?_
            refine P4_members hw C wd_7_15 dX4_readsMembers_40 ?_
            refine J_goto (tgt := 5) C dX4_readsMembers_43 (by decide) ?_
            refine J_drop ?_ (ih5 (j + 1) (setI x25 (25 + 5 * w) (nI (j + 1))) (by omega) (fst_go hv (badM_n hs17 hz25 hy25 hx25)) ((hyg.tr (hf17.g.tr (hg25.w (fun u hu => by omega) (fun u hu => by omega)))).tr (FG.int (by omega) (by omega))) (hd25.int (by omega)) sI_eq (updN hy0 (ha25.trans (by rw [hf17.1])) rfl) (updN hy1 (hb25.trans (by rw [hf17.1])) rfl) (updN hy2 (hc25.trans (by rw [hf17.1])) rfl) (by omega))
            exact ⟨rfl, rfl, trivial⟩
  refine J_drop ?_ (lp5 8 0 (setI x (25 + 5 * w) (nI 0)) (by omega) (Nat.not_lt_zero _) (FG.int (by omega) (by omega)) (hd.int (by omega)) sI_eq (fun q hq => absurd hq (Nat.not_lt_zero q)) (fun q hq => absurd hq (Nat.not_lt_zero q)) (fun q hq => absurd hq (Nat.not_lt_zero q)) (by omega))
  exact ⟨rfl, rfl, trivial⟩
