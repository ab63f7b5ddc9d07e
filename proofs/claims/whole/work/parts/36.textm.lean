def F15 (x y : Mt) : Prop := y.2 = x.2 ∧ ∀ u, u ≠ 15 → y.1 u = x.1 u
theorem F15.rf {x : Mt} : F15 x x := ⟨rfl, fun _ _ => rfl⟩
theorem F15.int {x : Mt} {v : Int32} : F15 x (mI x 15 v) := ⟨rfl, fun _ h => mI_ne h⟩
def FN (a b c d : Nat) (x y : Mt) : Prop := (∀ u, u ≠ 15 → (u < a ∨ b ≤ u) → y.1 u = x.1 u) ∧ ∀ u, (u < c ∨ d ≤ u) → y.2 u = x.2 u
section FNS
variable {a b c d : Nat} {x y z : Mt}
theorem FN.rf : FN a b c d x x := ⟨fun _ _ _ => rfl, fun _ _ => rfl⟩
theorem FN.tr (h : FN a b c d x y) (g : FN a b c d y z) : FN a b c d x z := ⟨fun u h1 h2 => (g.1 u h1 h2).trans (h.1 u h1 h2), fun u hu => (g.2 u hu).trans (h.2 u hu)⟩
theorem F15.g (h : F15 x y) : FN a b c d x y := ⟨fun u h1 _ => h.2 u h1, fun u _ => by rw [h.1]⟩
theorem FN.int {u : Nat} {v : Int32} (h1 : a ≤ u) (h2 : u < b) : FN a b c d x (mI x u v) := ⟨fun j _ hj => mI_ne (by omega), fun _ _ => rfl⟩
theorem FN.arr {u : Nat} {f : Nat → Int32} (h1 : c ≤ u) (h2 : u < d) : FN a b c d x (mA x u f) := ⟨fun _ _ _ => rfl, fun j hj => mA_ne (by omega)⟩
theorem FN.w {a' b' c' d' : Nat} (h : FN a b c d x y) (h1 : ∀ u, (u < a' ∨ b' ≤ u) → (u < a ∨ b ≤ u)) (h2 : ∀ u, (u < c' ∨ d' ≤ u) → (u < c ∨ d ≤ u)) : FN a' b' c' d' x y := ⟨fun u g1 g2 => h.1 u g1 (h1 u g2), fun u g => h.2 u (h2 u g)⟩
end FNS
def Rm (x : Mt) (s n : Nat) (c : Nat → Int32) (p : Nat) : Prop := p ≤ n ∧ x.1 15 = nI (s + p) ∧ ∀ q, q < n → x.2 4 (s + q) = c q
section RMS
variable {x y : Mt} {s n p : Nat} {c : Nat → Int32}
theorem Rm.at (h : Rm x s n c p) (hp : p + 1 ≤ n) : Rm (mI x 15 (nI (s + p + 1))) s n c (p + 1) := ⟨hp, mI_eq, h.2.2⟩
theorem Rm.int {u : Nat} {v : Int32} (h : Rm x s n c p) (hu : u ≠ 15) : Rm (mI x u v) s n c p := ⟨h.1, (mI_ne (Ne.symm hu)).trans h.2.1, h.2.2⟩
theorem Rm.arr {u : Nat} {f : Nat → Int32} (h : Rm x s n c p) (hu : u ≠ 4) : Rm (mA x u f) s n c p := ⟨h.1, h.2.1, fun q hq => (congrFun (mA_ne (Ne.symm hu)) _).trans (h.2.2 q hq)⟩
end RMS
theorem knd_m1 {c : Nat → Int32} {n p : Nat} (h : p < n) (h1 : c p = nI 115) : knd c n p = 1 := by unfold knd; rw [if_pos h, if_pos h1]
theorem knd_m2 {c : Nat → Int32} {n p : Nat} (h : p < n) (h1 : ¬ c p = nI 115) (h2 : c p = nI 99) : knd c n p = 2 := by unfold knd; rw [if_pos h, if_neg h1, if_pos h2]
theorem knd_m3 {c : Nat → Int32} {n p : Nat} (h : p < n) (h1 : ¬ c p = nI 115) (h2 : ¬ c p = nI 99) (h3 : c p = nI 108) : knd c n p = 3 := by unfold knd; rw [if_pos h, if_neg h1, if_neg h2, if_pos h3]
theorem knd_m0 {c : Nat → Int32} {n p : Nat} (h1 : ¬ c p = nI 115) (h2 : ¬ c p = nI 99) (h3 : ¬ c p = nI 108) : knd c n p = 0 := by
  unfold knd
  by_cases e : p < n
  · rw [if_pos e, if_neg h1, if_neg h2, if_neg h3]
  · rw [if_neg e]
theorem knd_mn {c : Nat → Int32} {n p : Nat} (h : ¬ p < n) : knd c n p = 0 := if_neg h
def RdM (x : Mt) (a : SA) : Prop := x.1 16 = nI (a.1 0) ∧ x.1 17 = nI (a.1 1) ∧ x.1 18 = nI (a.1 2) ∧ x.1 19 = nI (a.1 3) ∧ x.1 20 = nI (a.1 4) ∧ (∀ j, j < a.1 3 → x.2 21 j = nI (a.2 0 j) ∧ x.2 22 j = nI (a.2 1 j)) ∧ ∀ j, j < a.1 4 → x.2 23 j = nI (a.2 2 j) ∧ x.2 24 j = nI (a.2 3 j) ∧ x.2 25 j = nI (a.2 4 j)
/-- what taking a shore changes -/
def FT (x y : Mt) : Prop := (∀ i, i < 5 ∨ 10 ≤ i ∧ i ≠ 29 → y.1 i = x.1 i) ∧ ∀ t, t < 10 ∨ 15 ≤ t → y.2 t = x.2 t
theorem FT.tr {x y z : Mt} (h : FT x y) (g : FT y z) : FT x z := ⟨fun i hi => (g.1 i hi).trans (h.1 i hi), fun t ht => (g.2 t ht).trans (h.2 t ht)⟩
theorem FT.int {x : Mt} {u : Nat} {v : Int32} (h : 5 ≤ u ∧ u < 10 ∨ u = 29) : FT x (mI x u v) := ⟨fun j hj => mI_ne (by omega), fun _ _ => rfl⟩
theorem FT.arr {x : Mt} {u : Nat} {f : Nat → Int32} (h : 10 ≤ u ∧ u < 15) : FT x (mA x u f) := ⟨fun _ _ => rfl, fun j hj => mA_ne (by omega)⟩
theorem FT.rd {x y : Mt} {a : SA} (h : FT x y) (hd : RdM x a) : RdM y a := by
  obtain ⟨g0, g1, g2, g3, g4, g5, g6⟩ := hd
  refine ⟨(h.1 16 (by decide)).trans g0, (h.1 17 (by decide)).trans g1, (h.1 18 (by decide)).trans g2, (h.1 19 (by decide)).trans g3, (h.1 20 (by decide)).trans g4, fun j hj => ?_, fun j hj => ?_⟩
  · rw [h.2 21 (by decide), h.2 22 (by decide)]; exact g5 j hj
  · rw [h.2 23 (by decide), h.2 24 (by decide), h.2 25 (by decide)]; exact g6 j hj
theorem absM_take2 {x y z : Mt} {A : AB} {b : SA} (h : AbsM x A) (hf : FN 16 21 21 26 x y) (hm : MdR z b) (h29 : z.1 29 = nI 0) (ht : FT y z) : AbsM z (AsR (AsS A b) (0, A.2.2.1.2)) := by
  obtain ⟨m1, m2, m3, m4, m5⟩ := h
  exact ⟨hm, m2.same (fun t h1 h2 => (ht.2 t (by omega)).trans (hf.2 t (by omega))), ⟨h29, fun j hj => absurd hj (Nat.not_lt_zero j)⟩, ((ht.1 1 (by omega)).trans (hf.1 1 (by omega) (by omega))).trans m4, ((ht.1 0 (by omega)).trans (hf.1 0 (by omega) (by omega))).trans m5⟩
theorem FN.absM {x y : Mt} {A : AB} (hf : FN 16 21 21 26 x y) (h : AbsM x A) : AbsM y A := by
  obtain ⟨⟨g0, g1, g2, g3, g4, g5, g6⟩, m2, m3, m4, m5⟩ := h
  refine ⟨⟨(hf.1 _ (by decide) (by omega)).trans g0, (hf.1 _ (by decide) (by omega)).trans g1, (hf.1 _ (by decide) (by omega)).trans g2, (hf.1 _ (by decide) (by omega)).trans g3, (hf.1 _ (by decide) (by omega)).trans g4, fun j hj => ?_, fun j hj => ?_⟩, m2.same (fun t h1 h2 => hf.2 t (by omega)), m3.same (hf.1 29 (by decide) (by omega)) (fun t h1 h2 => hf.2 t (by omega)), (hf.1 1 (by decide) (by omega)).trans m4, (hf.1 0 (by decide) (by omega)).trans m5⟩
  · rw [hf.2 10 (by omega), hf.2 11 (by omega)]; exact g5 j hj
  · rw [hf.2 12 (by omega), hf.2 13 (by omega), hf.2 14 (by omega)]; exact g6 j hj
theorem updS {f g : Nat → Int32} {j : Nat} {v : Int32} {u : Nat → Nat} (h : ∀ q, q < j → f q = nI (u q)) (hg : g = upd f j v) (hv : v = nI (u j)) : ∀ q, q < j + 1 → g q = nI (u q) := by
  intro q hq
  rw [hg]
  by_cases e : q = j
  · subst e; rw [← hv]; exact upd_eq
  · exact (upd_ne e).trans (h q (by omega))
theorem absM_at {x : Mt} {A : AB} {v : Int32} (h : AbsM x A) : AbsM (mI x 15 v) A := by
  obtain ⟨m1, m2, m3, m4, m5⟩ := h
  exact ⟨m1.int (by omega), m2, m3.int (by decide), (mI_ne (by decide)).trans m4, (mI_ne (by decide)).trans m5⟩

def rm_X6_digit : Room := ({ frames := 1, cells := 0, slots := 0, locals := 22 })
set_option maxRecDepth 20000 in
theorem c_X6_digit (l : Launch) (Z : EC) (x : Mt) {s n p : Nat} {c : Nat → Int32} (hin : s + n ≤ 240) (hd : Rm x s n c p) (lo hi : Nat) (hlo : lo ≤ 9) (hhi : hi ≤ 9) : MIi l Z (wM Z) yX6_digit cX6_digit 4 rm_X6_digit [.ref (Z.2.1 0), .int (nI (s + n)), .int (nI lo), .int (nI hi)] x (fun r x1 => r = less1 (dgt c n p lo hi) ∧ F15 x x1 ∧ Rm x1 s n c (p + adv (dgt c n p lo hi))) := by
  have hp1 := hd.1
  refine MIi_of (own := RX6) (L0 := [some (.ref (Z.2.1 0)), some (.int (nI (s + n))), some (.int (nI lo)), some (.int (nI hi))]) (by decide) rfl (Nat.le_of_ble_eq_true rfl) ⟨rfl, rfl, rfl, rfl, trivial⟩ ?_
  intro Γ C E
  refine J_aload_n C dX6_digit_0 rfl rfl ?_
  refine G6_at C wd_8_15 dX6_digit_1 ?_
  rw [show x.1 15 = nI (s + p) from hd.2.1]
  refine J_iload_n C dX6_digit_4 rfl rfl ?_
  refine J_icmp_ge_n C (tgt := 31) dX6_digit_5 (by decide) (by omega) (by omega) (fun c5 => ?_) (fun c5 => ?_)
  · skip
    have hz : dgt c n p lo hi = 0 := if_neg (fun h => absurd h.1 (by omega))
    refine J_bipush C (v := (-9)) dX6_digit_31 (by decide) ?_
    exact E dX6_digit_33 (⟨by rw [hz]; rfl, F15.rf, by rw [hz]; exact hd⟩)
  · skip
    refine J_aload_n C dX6_digit_8 rfl rfl ?_
    refine G6_cells C wd_3_20 dX6_digit_9 ?_
    refine J_aload_n C dX6_digit_12 rfl rfl ?_
    refine G6_at C wd_8_15 dX6_digit_13 ?_
    rw [show x.1 15 = nI (s + p) from hd.2.1]
    refine LM_cells C (v := c p) (by omega) (hd.2.2 p (by omega)) dX6_digit_16 ?_
    refine J_bipush C (v := nI 48) dX6_digit_17 (by decide) ?_
    refine J_iload_n C dX6_digit_19 rfl rfl ?_
    refine J_iadd C (v := nI (48 + lo)) dX6_digit_20 (nI_add _ _) ?_
    refine J_bipush C (v := nI 48) dX6_digit_21 (by decide) ?_
    refine J_iload_n C dX6_digit_23 rfl rfl ?_
    refine J_iadd C (v := nI (48 + hi)) dX6_digit_24 (nI_add _ _) ?_
    refine J_callSz C (As := [.int (c p), .int (nI (48 + lo)), .int (nI (48 + hi))]) (c_X6_within l Z _ _ _ _ ((48 + lo : Nat) : Int) ((48 + hi : Nat) : Int) (nI_i (by omega)) (nI_i (by omega))) cw_RX6_70 wd_8_21 rfl rfl (Nat.le_of_ble_eq_true rfl) rfl rfl (Nat.le_of_ble_eq_true rfl) (Nat.le_of_ble_eq_true rfl) dX6_digit_25 (fun b25 x25 hp25 => ?_)
    obtain ⟨rfl, rfl⟩ := hp25
    refine J_if_ne_d C (tgt := 34) dX6_digit_28 (by decide) (fun c28 => ?_) (fun c28 => ?_)
    · skip
      obtain ⟨cn, n0, n9, hcn⟩ := rng_nat2 (A := 48 + lo) (B := 48 + hi) c28
      have hz : dgt c n p lo hi = cn - 48 + 1 := by unfold dgt; rw [if_pos ⟨by omega, c28⟩, hcn, tn_nI (by omega)]
      refine J_aload_n C dX6_digit_34 rfl rfl ?_
      refine J_dup C dX6_digit_35 rfl ?_
      refine G6_at C wd_8_15 dX6_digit_36 ?_
      rw [show x.1 15 = nI (s + p) from hd.2.1]
      refine J_iconst C (v := nI 1) dX6_digit_39 (by decide) ?_
      refine J_iadd C (v := nI ((s + p) + 1)) dX6_digit_40 (nI_add _ _) ?_
      refine P6_at C wd_8_15 dX6_digit_41 ?_
      refine J_aload_n C dX6_digit_44 rfl rfl ?_
      refine G6_cells C wd_3_20 dX6_digit_45 ?_
      refine J_aload_n C dX6_digit_48 rfl rfl ?_
      refine G6_at C wd_8_15 dX6_digit_49 ?_
      rw [show (mI x 15 (nI ((s + p) + 1))).1 15 = nI (s + p + 1) from mI_eq]
      refine J_iconst C (v := nI 1) dX6_digit_52 (by decide) ?_
      refine J_isub C (v := nI (s + p)) dX6_digit_53 (pk_sub (a := s + p + 1) (b := 1) (by omega)) ?_
      refine LM_cells C (v := nI cn) (by omega) ((hd.2.2 p (by omega)).trans hcn) dX6_digit_54 ?_
      refine J_bipush C (v := nI 48) dX6_digit_55 (by decide) ?_
      refine J_isub C (v := nI (cn - 48)) dX6_digit_57 (pk_sub (a := cn) (b := 48) (by omega)) ?_
      exact E dX6_digit_58 (⟨by rw [hz]; rfl, F15.int, by rw [hz]; exact hd.at (by omega)⟩)
    · skip
      have hz : dgt c n p lo hi = 0 := if_neg (fun h => c28 h.2)
      refine J_bipush C (v := (-9)) dX6_digit_31 (by decide) ?_
      exact E dX6_digit_33 (⟨by rw [hz]; rfl, F15.rf, by rw [hz]; exact hd⟩)
def rm_X6_isSign : Room := ({ frames := 0, cells := 0, slots := 0, locals := 0 })
set_option maxRecDepth 20000 in
theorem c_X6_isSign (l : Launch) (Z : EC) (x : Mt) {s n p : Nat} {c : Nat → Int32} (hin : s + n ≤ 240) (hd : Rm x s n c p) (cd : Nat) (hcd : cd < 1000) : MIz l Z (wM Z) yX6_isSign cX6_isSign 3 rm_X6_isSign [.ref (Z.2.1 0), .int (nI (s + n)), .int (nI cd)] x (fun b x1 => (b = false ∧ sgn c n p cd = false ∧ x = x1) ∨ (b = true ∧ sgn c n p cd = true ∧ F15 x x1 ∧ Rm x1 s n c (p + 1))) := by
  have hp1 := hd.1
  refine MIz_of (own := RX6) (L0 := [some (.ref (Z.2.1 0)), some (.int (nI (s + n))), some (.int (nI cd))]) (by decide) rfl (Nat.le_of_ble_eq_true rfl) ⟨rfl, rfl, rfl, trivial⟩ ?_
  intro Γ C E
  refine J_aload_n C dX6_isSign_0 rfl rfl ?_
  refine G6_at C wd_8_15 dX6_isSign_1 ?_
  rw [show x.1 15 = nI (s + p) from hd.2.1]
  refine J_iload_n C dX6_isSign_4 rfl rfl ?_
  refine J_icmp_ge_n C (tgt := 21) dX6_isSign_5 (by decide) (by omega) (by omega) (fun c5 => ?_) (fun c5 => ?_)
  · skip
    refine J_iconst C (v := nI 0) dX6_isSign_21 (by decide) ?_
    exact E (b := false) dX6_isSign_22 (Or.inl ⟨rfl, decide_eq_false (fun h => absurd h.1 (by omega)), rfl⟩)
  · skip
    refine J_aload_n C dX6_isSign_8 rfl rfl ?_
    refine G6_cells C wd_3_20 dX6_isSign_9 ?_
    refine J_aload_n C dX6_isSign_12 rfl rfl ?_
    refine G6_at C wd_8_15 dX6_isSign_13 ?_
    rw [show x.1 15 = nI (s + p) from hd.2.1]
    refine LM_cells C (v := c p) (by omega) (hd.2.2 p (by omega)) dX6_isSign_16 ?_
    refine J_iload_n C dX6_isSign_17 rfl rfl ?_
    refine J_icmp_eq C (tgt := 23) dX6_isSign_18 (by decide) (fun c18 => ?_) (fun c18 => ?_)
    · skip
      refine J_aload_n C dX6_isSign_23 rfl rfl ?_
      refine J_dup C dX6_isSign_24 rfl ?_
      refine G6_at C wd_8_15 dX6_isSign_25 ?_
      rw [show x.1 15 = nI (s + p) from hd.2.1]
      refine J_iconst C (v := nI 1) dX6_isSign_28 (by decide) ?_
      refine J_iadd C (v := nI ((s + p) + 1)) dX6_isSign_29 (nI_add _ _) ?_
      refine P6_at C wd_8_15 dX6_isSign_30 ?_
      refine J_iconst C (v := nI 1) dX6_isSign_33 (by decide) ?_
      exact E (b := true) dX6_isSign_34 (Or.inr ⟨rfl, decide_eq_true ⟨by omega, c18⟩, F15.int, hd.at (by omega)⟩)
    · skip
      refine J_iconst C (v := nI 0) dX6_isSign_21 (by decide) ?_
      exact E (b := false) dX6_isSign_22 (Or.inl ⟨rfl, decide_eq_false (fun h => c18 h.2), rfl⟩)
def rm_X6_readPool : Room := ({ frames := 2, cells := 0, slots := 0, locals := 45 })
set_option maxRecDepth 20000 in
theorem c_X6_readPool (l : Launch) (Z : EC) (x : Mt) {s n p : Nat} {c : Nat → Int32} (hin : s + n ≤ 240) (hd : Rm x s n c p) {j : Nat} (hj : j < 6) (hpj : x.1 19 = nI j) : MIz l Z (wM Z) yX6_readPool cX6_readPool 2 rm_X6_readPool [.ref (Z.2.1 0), .int (nI (s + n))] x (fun b x1 => FN 19 20 21 23 x x1 ∧ ((b = false ∧ dgt c n (p) 1 9 = 0 ∧ Rm x1 s n c p) ∨ (b = false ∧ dgt c n (p) 1 9 ≠ 0 ∧ dgt c n (p + 1) 1 9 = 0 ∧ Rm x1 s n c (p + 1)) ∨ (b = true ∧ dgt c n (p) 1 9 ≠ 0 ∧ dgt c n (p + 1) 1 9 ≠ 0 ∧ Rm x1 s n c (p + 1 + 1) ∧ x1.1 19 = nI (j + 1) ∧ x1.2 21 = upd (x.2 21) j (nI (dgt c n (p) 1 9 - 1)) ∧ x1.2 22 = upd (x.2 22) j (nI (dgt c n (p + 1) 1 9 - 1))))) := by
  refine MIz_of (own := RX6) (L0 := [some (.ref (Z.2.1 0)), some (.int (nI (s + n)))]) (by decide) rfl (Nat.le_of_ble_eq_true rfl) ⟨rfl, rfl, trivial⟩ ?_
  intro Γ C E
  refine J_aload_n C dX6_readPool_0 rfl rfl ?_
  refine G6_readHeight C wd_4_2 dX6_readPool_1 ?_
  refine J_aload_n C dX6_readPool_4 rfl rfl ?_
  refine G6_readPools C wd_9_14 dX6_readPool_5 ?_
  rw [show x.1 19 = nI j from hpj]
  refine J_aload_n C dX6_readPool_8 rfl rfl ?_
  refine J_iload_n C dX6_readPool_9 rfl rfl ?_
  refine J_iconst C (v := nI 1) dX6_readPool_10 (by decide) ?_
  refine J_bipush C (v := nI 9) dX6_readPool_11 (by decide) ?_
  refine J_callVi C (q0 := 0) (ci := 6) (N := 33) (As := [.int (nI (s + n)), .int (nI 1), .int (nI 9)]) (c_X6_digit l Z _ hin hd _ _ (by omega) (by omega)) cw_RX6_135 wd_10_0 wd_10_1 rfl rfl rfl rfl (Nat.le_of_ble_eq_true rfl) rfl rfl (Nat.le_of_ble_eq_true rfl) (Nat.le_of_ble_eq_true rfl) dX6_readPool_13 (fun r13 x13 hp13 => ?_)
  obtain ⟨rfl, hf13, hd13⟩ := hp13
  refine SM_readHeight C (by omega) dX6_readPool_16 ?_
  have hdA : Rm (mA x13 21 (upd (x13.2 21) j (less1 (dgt c n (p) 1 9)))) s n c (p + adv (dgt c n (p) 1 9)) := (hd13).arr (by decide)
  have hgA : FN 19 20 21 23 x (mA x13 21 (upd (x13.2 21) j (less1 (dgt c n (p) 1 9)))) := ((FN.rf (a := 19) (b := 20) (c := 21) (d := 23) (x := x)).tr hf13.g).tr (FN.arr (by omega) (by omega))
  have hjA : ((mA x13 21 (upd (x13.2 21) j (less1 (dgt c n (p) 1 9))))).1 19 = nI j := (hf13.2 _ (by omega)).trans hpj
  have haA : ((mA x13 21 (upd (x13.2 21) j (less1 (dgt c n (p) 1 9))))).2 21 = upd (x.2 21) j (less1 (dgt c n (p) 1 9)) := mA_eq.trans (by rw [hf13.1])
  have haO : ((mA x13 21 (upd (x13.2 21) j (less1 (dgt c n (p) 1 9))))).2 22 = x.2 22 := (mA_ne (by omega)).trans (by rw [hf13.1])
  generalize mA x13 21 (upd (x13.2 21) j (less1 (dgt c n (p) 1 9))) = yA at hdA hgA hjA haA haO ⊢
  refine J_aload_n C dX6_readPool_17 rfl rfl ?_
  refine G6_readHeight C wd_4_2 dX6_readPool_18 ?_
  refine J_aload_n C dX6_readPool_21 rfl rfl ?_
  refine G6_readPools C wd_9_14 dX6_readPool_22 ?_
  rw [show yA.1 19 = nI j from hjA]
  refine LM_readHeight C (v := less1 (dgt c n (p) 1 9)) (by omega) ((congrFun haA j).trans upd_eq) dX6_readPool_25 ?_
  refine J_bipush C (v := (-9)) dX6_readPool_26 (by decide) ?_
  refine J_icmp_ne C (tgt := 33) dX6_readPool_28 (by decide) (fun c28 => ?_) (fun c28 => ?_)
  · skip
    have z1 : dgt c n (p) 1 9 ≠ 0 := fun e => c28 (by rw [e]; rfl)
    rw [adv1 z1] at hdA
    refine J_aload_n C dX6_readPool_33 rfl rfl ?_
    refine G6_readDepth C wd_4_3 dX6_readPool_34 ?_
    refine J_aload_n C dX6_readPool_37 rfl rfl ?_
    refine G6_readPools C wd_9_14 dX6_readPool_38 ?_
    rw [show yA.1 19 = nI j from hjA]
    refine J_aload_n C dX6_readPool_41 rfl rfl ?_
    refine J_iload_n C dX6_readPool_42 rfl rfl ?_
    refine J_iconst C (v := nI 1) dX6_readPool_43 (by decide) ?_
    refine J_bipush C (v := nI 9) dX6_readPool_44 (by decide) ?_
    refine J_callVi C (q0 := 0) (ci := 6) (N := 33) (As := [.int (nI (s + n)), .int (nI 1), .int (nI 9)]) (c_X6_digit l Z _ hin hdA _ _ (by omega) (by omega)) cw_RX6_135 wd_10_0 wd_10_1 rfl rfl rfl rfl (Nat.le_of_ble_eq_true rfl) rfl rfl (Nat.le_of_ble_eq_true rfl) (Nat.le_of_ble_eq_true rfl) dX6_readPool_46 (fun r46 x46 hp46 => ?_)
    obtain ⟨rfl, hf46, hd46⟩ := hp46
    refine SM_readDepth C (by omega) dX6_readPool_49 ?_
    have hdB : Rm (mA x46 22 (upd (x46.2 22) j (less1 (dgt c n (p + 1) 1 9)))) s n c (p + 1 + adv (dgt c n (p + 1) 1 9)) := (hd46).arr (by decide)
    have hgB : FN 19 20 21 23 x (mA x46 22 (upd (x46.2 22) j (less1 (dgt c n (p + 1) 1 9)))) := (hgA.tr hf46.g).tr (FN.arr (by omega) (by omega))
    have hjB : ((mA x46 22 (upd (x46.2 22) j (less1 (dgt c n (p + 1) 1 9))))).1 19 = nI j := (hf46.2 _ (by omega)).trans hjA
    have haB : ((mA x46 22 (upd (x46.2 22) j (less1 (dgt c n (p + 1) 1 9))))).2 22 = upd (x.2 22) j (less1 (dgt c n (p + 1) 1 9)) := mA_eq.trans (by rw [hf46.1, haO])
    have haA2 : ((mA x46 22 (upd (x46.2 22) j (less1 (dgt c n (p + 1) 1 9))))).2 21 = upd (x.2 21) j (less1 (dgt c n (p) 1 9)) := (mA_ne (by omega)).trans (by rw [hf46.1]; exact haA)
    generalize mA x46 22 (upd (x46.2 22) j (less1 (dgt c n (p + 1) 1 9))) = yB at hdB hgB hjB haB haA2 ⊢
    refine J_aload_n C dX6_readPool_50 rfl rfl ?_
    refine J_dup C dX6_readPool_51 rfl ?_
    refine G6_readPools C wd_9_14 dX6_readPool_52 ?_
    rw [show yB.1 19 = nI j from hjB]
    refine J_iconst C (v := nI 1) dX6_readPool_55 (by decide) ?_
    refine J_iadd C (v := nI (j + 1)) dX6_readPool_56 (nI_add _ _) ?_
    refine P6_readPools C wd_9_14 dX6_readPool_57 ?_
    have hdC : Rm (mI yB 19 (nI (j + 1))) s n c (p + 1 + adv (dgt c n (p + 1) 1 9)) := hdB.int (by decide)
    have hgC : FN 19 20 21 23 x (mI yB 19 (nI (j + 1))) := hgB.tr (FN.int (by omega) (by omega))
    have hjC : ((mI yB 19 (nI (j + 1)))).1 19 = nI (j + 1) := mI_eq
    have haC : ((mI yB 19 (nI (j + 1)))).2 22 = upd (x.2 22) j (less1 (dgt c n (p + 1) 1 9)) := haB
    have haA3 : ((mI yB 19 (nI (j + 1)))).2 21 = upd (x.2 21) j (less1 (dgt c n (p) 1 9)) := haA2
    generalize mI yB 19 (nI (j + 1)) = yC at hdC hgC hjC haC haA3 ⊢
    refine J_aload_n C dX6_readPool_60 rfl rfl ?_
    refine G6_readDepth C wd_4_3 dX6_readPool_61 ?_
    refine J_aload_n C dX6_readPool_64 rfl rfl ?_
    refine G6_readPools C wd_9_14 dX6_readPool_65 ?_
    rw [show yC.1 19 = nI (j + 1) from hjC]
    refine J_iconst C (v := nI 1) dX6_readPool_68 (by decide) ?_
    refine J_isub C (v := nI j) dX6_readPool_69 (pk_sub (a := j + 1) (b := 1) (by omega)) ?_
    refine LM_readDepth C (v := less1 (dgt c n (p + 1) 1 9)) (by omega) ((congrFun haC j).trans upd_eq) dX6_readPool_70 ?_
    refine J_bipush C (v := (-9)) dX6_readPool_71 (by decide) ?_
    refine J_icmp_eq C (tgt := 80) dX6_readPool_73 (by decide) (fun c73 => ?_) (fun c73 => ?_)
    · skip
      have z2 : dgt c n (p + 1) 1 9 = 0 := less1_eq c73 (by have : dgt c n (p + 1) 1 9 ≤ 10 := dgt_le; omega)
      refine J_iconst C (v := nI 0) dX6_readPool_80 (by decide) ?_
      exact E (b := false) dX6_readPool_81 (⟨hgC, Or.inr (Or.inl ⟨rfl, z1, z2, by rw [adv_z z2] at hdC; exact hdC⟩)⟩)
    · skip
      have z2 : dgt c n (p + 1) 1 9 ≠ 0 := fun e => c73 (by rw [e]; rfl)
      rw [adv1 z2] at hdC
      refine J_iconst C (v := nI 1) dX6_readPool_76 (by decide) ?_
      refine J_goto (tgt := 81) C dX6_readPool_77 (by decide) ?_
      exact E (b := true) dX6_readPool_81 (⟨hgC, Or.inr (Or.inr ⟨rfl, z1, z2, hdC, hjC, by rw [haA3, less1_n z1], by rw [haC, less1_n z2]⟩)⟩)
  · skip
    have z1 : dgt c n (p) 1 9 = 0 := less1_eq c28 (by have : dgt c n (p) 1 9 ≤ 10 := dgt_le; omega)
    refine J_iconst C (v := nI 0) dX6_readPool_31 (by decide) ?_
    exact E (b := false) dX6_readPool_32 (⟨hgA, Or.inl ⟨rfl, z1, by rw [adv_z z1] at hdA; exact hdA⟩⟩)
def rm_X6_readMember : Room := ({ frames := 2, cells := 0, slots := 0, locals := 45 })
set_option maxRecDepth 20000 in
theorem c_X6_readMember (l : Launch) (Z : EC) (x : Mt) {s n p : Nat} {c : Nat → Int32} (hin : s + n ≤ 240) (hd : Rm x s n c p) {j P : Nat} (hj : j < 6) (hP2 : 2 ≤ P) (hP6 : P ≤ 6) (hpj : x.1 20 = nI j) (hP0 : x.1 19 = nI P) : MIz l Z (wM Z) yX6_readMember cX6_readMember 3 rm_X6_readMember [.ref (Z.2.1 0), .int (nI (s + n))] x (fun b x1 => FN 20 21 23 26 x x1 ∧ ((b = false ∧ knd c n p = 0 ∧ Rm x1 s n c p) ∨ (b = false ∧ knd c n p ≠ 0 ∧ dgt c n (p + 1) 0 (P - 1) = 0 ∧ Rm x1 s n c (p + 1)) ∨ (b = false ∧ knd c n p ≠ 0 ∧ dgt c n (p + 1) 0 (P - 1) ≠ 0 ∧ dgt c n (p + 1 + 1) 0 9 = 0 ∧ Rm x1 s n c (p + 1 + 1)) ∨ (b = true ∧ knd c n p ≠ 0 ∧ dgt c n (p + 1) 0 (P - 1) ≠ 0 ∧ dgt c n (p + 1 + 1) 0 9 ≠ 0 ∧ Rm x1 s n c (p + 1 + 1 + 1) ∧ x1.1 20 = nI (j + 1) ∧ x1.2 23 = upd (x.2 23) j (nI (knd c n p - 1)) ∧ x1.2 24 = upd (x.2 24) j (nI (dgt c n (p + 1) 0 (P - 1) - 1)) ∧ x1.2 25 = upd (x.2 25) j (nI (dgt c n (p + 1 + 1) 0 9 - 1))))) := by
  have hp1 := hd.1
  refine MIz_of (own := RX6) (L0 := [some (.ref (Z.2.1 0)), some (.int (nI (s + n))), none]) (by decide) rfl (Nat.le_of_ble_eq_true rfl) ⟨rfl, rfl, trivial⟩ ?_
  intro Γ C E
  refine J_aload_n C dX6_readMember_0 rfl rfl ?_
  refine G6_at C wd_8_15 dX6_readMember_1 ?_
  rw [show x.1 15 = nI (s + p) from hd.2.1]
  refine J_iload_n C dX6_readMember_4 rfl rfl ?_
  refine J_icmp_ge_n C (tgt := 20) dX6_readMember_5 (by decide) (by omega) (by omega) (fun c5 => ?_) (fun c5 => ?_)
  · skip
    have hz := knd_mn (c := c) (n := n) (p := p) (by omega)
    refine J_iconst C (v := nI 0) dX6_readMember_20 (by decide) ?_
    refine J_istore_n C (L' := [some (.ref (Z.2.1 0)), some (.int (nI (s + n))), some (.int (nI 0))]) dX6_readMember_21 rfl (by decide) rfl rfl ?_
    refine J_aload_n C dX6_readMember_22 rfl rfl ?_
    refine G6_readKind C wd_4_4 dX6_readMember_23 ?_
    refine J_aload_n C dX6_readMember_26 rfl rfl ?_
    refine G6_readMembers C wd_9_15 dX6_readMember_27 ?_
    rw [show x.1 20 = nI j from hpj]
    refine J_iload_n C dX6_readMember_30 rfl rfl ?_
    refine J_bipush C (v := nI 115) dX6_readMember_31 (by decide) ?_
    refine J_icmp_ne C (tgt := 40) dX6_readMember_33 (by decide) (fun c33 => ?_) (fun c33 => absurd c33 (by decide))
    refine J_iload_n C dX6_readMember_40 rfl rfl ?_
    refine J_bipush C (v := nI 99) dX6_readMember_41 (by decide) ?_
    refine J_icmp_ne C (tgt := 50) dX6_readMember_43 (by decide) (fun c43 => ?_) (fun c43 => absurd c43 (by decide))
    refine J_iload_n C dX6_readMember_50 rfl rfl ?_
    refine J_bipush C (v := nI 108) dX6_readMember_51 (by decide) ?_
    refine J_icmp_ne C (tgt := 60) dX6_readMember_53 (by decide) (fun c53 => ?_) (fun c53 => absurd c53 (by decide))
    first | (have hz := knd_m0 (c := c) (n := n) (p := p) c33 c43 c53) | skip
    refine J_bipush C (v := less1 (knd c n p)) dX6_readMember_60 (by rw [hz]; decide) ?_
    refine SM_readKind C (by omega) dX6_readMember_62 ?_
    have hdA : Rm (mA x 23 (upd (x.2 23) j (less1 (knd c n p)))) s n c (p) := (hd).arr (by decide)
    have hgA : FN 20 21 23 26 x (mA x 23 (upd (x.2 23) j (less1 (knd c n p)))) := (FN.rf (a := 20) (b := 21) (c := 23) (d := 26) (x := x)).tr (FN.arr (by omega) (by omega))
    have hjA : ((mA x 23 (upd (x.2 23) j (less1 (knd c n p))))).1 20 = nI j := hpj
    have hPA : ((mA x 23 (upd (x.2 23) j (less1 (knd c n p))))).1 19 = nI P := hP0
    have haA : ((mA x 23 (upd (x.2 23) j (less1 (knd c n p))))).2 23 = upd (x.2 23) j (less1 (knd c n p)) := mA_eq
    have haO : ((mA x 23 (upd (x.2 23) j (less1 (knd c n p))))).2 24 = x.2 24 := (mA_ne (by omega))
    have haO2 : ((mA x 23 (upd (x.2 23) j (less1 (knd c n p))))).2 25 = x.2 25 := (mA_ne (by omega))
    generalize mA x 23 (upd (x.2 23) j (less1 (knd c n p))) = yA at hdA hgA hjA hPA haA haO haO2 ⊢
    refine J_aload_n C dX6_readMember_63 rfl rfl ?_
    refine G6_readKind C wd_4_4 dX6_readMember_64 ?_
    refine J_aload_n C dX6_readMember_67 rfl rfl ?_
    refine G6_readMembers C wd_9_15 dX6_readMember_68 ?_
    rw [show yA.1 20 = nI j from hjA]
    refine LM_readKind C (v := less1 (knd c n p)) (by omega) ((congrFun haA j).trans upd_eq) dX6_readMember_71 ?_
    refine J_bipush C (v := (-9)) dX6_readMember_72 (by decide) ?_
    refine J_icmp_ne C (tgt := 79) dX6_readMember_74 (by decide) (fun c74 => ?_) (fun c74 => ?_)
    · skip
      have z1 : knd c n p ≠ 0 := fun e => c74 (by rw [e]; rfl)
      have hpn := (knd_in z1).1
      refine J_aload_n C dX6_readMember_79 rfl rfl ?_
      refine J_dup C dX6_readMember_80 rfl ?_
      refine G6_at C wd_8_15 dX6_readMember_81 ?_
      rw [show yA.1 15 = nI (s + p) from hdA.2.1]
      refine J_iconst C (v := nI 1) dX6_readMember_84 (by decide) ?_
      refine J_iadd C (v := nI ((s + p) + 1)) dX6_readMember_85 (nI_add _ _) ?_
      refine P6_at C wd_8_15 dX6_readMember_86 ?_
      have hdA2 : Rm (mI yA 15 (nI ((s + p) + 1))) s n c (p + 1) := hdA.at (by omega)
      have hgA2 : FN 20 21 23 26 x (mI yA 15 (nI ((s + p) + 1))) := hgA.tr F15.int.g
      have hjA2 : ((mI yA 15 (nI ((s + p) + 1)))).1 20 = nI j := hjA
      have hPA2 : ((mI yA 15 (nI ((s + p) + 1)))).1 19 = nI P := hPA
      have haA2 : ((mI yA 15 (nI ((s + p) + 1)))).2 23 = upd (x.2 23) j (less1 (knd c n p)) := haA
      have haO3 : ((mI yA 15 (nI ((s + p) + 1)))).2 24 = x.2 24 := haO
      have haO4 : ((mI yA 15 (nI ((s + p) + 1)))).2 25 = x.2 25 := haO2
      generalize mI yA 15 (nI ((s + p) + 1)) = yA2 at hdA2 hgA2 hjA2 hPA2 haA2 haO3 haO4 ⊢
      refine J_aload_n C dX6_readMember_89 rfl rfl ?_
      refine G6_readPoolOf C wd_4_5 dX6_readMember_90 ?_
      refine J_aload_n C dX6_readMember_93 rfl rfl ?_
      refine G6_readMembers C wd_9_15 dX6_readMember_94 ?_
      rw [show yA2.1 20 = nI j from hjA2]
      refine J_aload_n C dX6_readMember_97 rfl rfl ?_
      refine J_iload_n C dX6_readMember_98 rfl rfl ?_
      refine J_iconst C (v := nI 0) dX6_readMember_99 (by decide) ?_
      refine J_aload_n C dX6_readMember_100 rfl rfl ?_
      refine G6_readPools C wd_9_14 dX6_readMember_101 ?_
      rw [show yA2.1 19 = nI P from hPA2]
      refine J_iconst C (v := nI 1) dX6_readMember_104 (by decide) ?_
      refine J_isub C (v := nI (P - 1)) dX6_readMember_105 (pk_sub (a := P) (b := 1) (by omega)) ?_
      refine J_callVi C (q0 := 0) (ci := 6) (N := 33) (As := [.int (nI (s + n)), .int (nI 0), .int (nI (P - 1))]) (c_X6_digit l Z _ hin hdA2 _ _ (by omega) (by omega)) cw_RX6_135 wd_10_0 wd_10_1 rfl rfl rfl rfl (Nat.le_of_ble_eq_true rfl) rfl rfl (Nat.le_of_ble_eq_true rfl) (Nat.le_of_ble_eq_true rfl) dX6_readMember_106 (fun r106 x106 hp106 => ?_)
      obtain ⟨rfl, hf106, hd106⟩ := hp106
      refine SM_readPoolOf C (by omega) dX6_readMember_109 ?_
      have hdB : Rm (mA x106 24 (upd (x106.2 24) j (less1 (dgt c n (p + 1) 0 (P - 1))))) s n c (p + 1 + adv (dgt c n (p + 1) 0 (P - 1))) := (hd106).arr (by decide)
      have hgB : FN 20 21 23 26 x (mA x106 24 (upd (x106.2 24) j (less1 (dgt c n (p + 1) 0 (P - 1))))) := (hgA2.tr hf106.g).tr (FN.arr (by omega) (by omega))
      have hjB : ((mA x106 24 (upd (x106.2 24) j (less1 (dgt c n (p + 1) 0 (P - 1)))))).1 20 = nI j := (hf106.2 _ (by omega)).trans hjA2
      have haB : ((mA x106 24 (upd (x106.2 24) j (less1 (dgt c n (p + 1) 0 (P - 1)))))).2 24 = upd (x.2 24) j (less1 (dgt c n (p + 1) 0 (P - 1))) := mA_eq.trans (by rw [hf106.1, haO3])
      have haA3 : ((mA x106 24 (upd (x106.2 24) j (less1 (dgt c n (p + 1) 0 (P - 1)))))).2 23 = upd (x.2 23) j (less1 (knd c n p)) := (mA_ne (by omega)).trans (by rw [hf106.1]; exact haA2)
      have haO5 : ((mA x106 24 (upd (x106.2 24) j (less1 (dgt c n (p + 1) 0 (P - 1)))))).2 25 = x.2 25 := (mA_ne (by omega)).trans (by rw [hf106.1]; exact haO4)
      generalize mA x106 24 (upd (x106.2 24) j (less1 (dgt c n (p + 1) 0 (P - 1)))) = yB at hdB hgB hjB haB haA3 haO5 ⊢
      refine J_aload_n C dX6_readMember_110 rfl rfl ?_
      refine G6_readPoolOf C wd_4_5 dX6_readMember_111 ?_
      refine J_aload_n C dX6_readMember_114 rfl rfl ?_
      refine G6_readMembers C wd_9_15 dX6_readMember_115 ?_
      rw [show yB.1 20 = nI j from hjB]
      refine LM_readPoolOf C (v := less1 (dgt c n (p + 1) 0 (P - 1))) (by omega) ((congrFun haB j).trans upd_eq) dX6_readMember_118 ?_
      refine J_bipush C (v := (-9)) dX6_readMember_119 (by decide) ?_
      refine J_icmp_ne C (tgt := 126) dX6_readMember_121 (by decide) (fun c121 => ?_) (fun c121 => ?_)
      · skip
        have z2 : dgt c n (p + 1) 0 (P - 1) ≠ 0 := fun e => c121 (by rw [e]; rfl)
        rw [adv1 z2] at hdB
        refine J_aload_n C dX6_readMember_126 rfl rfl ?_
        refine G6_readView C wd_4_6 dX6_readMember_127 ?_
        refine J_aload_n C dX6_readMember_130 rfl rfl ?_
        refine G6_readMembers C wd_9_15 dX6_readMember_131 ?_
        rw [show yB.1 20 = nI j from hjB]
        refine J_aload_n C dX6_readMember_134 rfl rfl ?_
        refine J_iload_n C dX6_readMember_135 rfl rfl ?_
        refine J_iconst C (v := nI 0) dX6_readMember_136 (by decide) ?_
        refine J_bipush C (v := nI 9) dX6_readMember_137 (by decide) ?_
        refine J_callVi C (q0 := 0) (ci := 6) (N := 33) (As := [.int (nI (s + n)), .int (nI 0), .int (nI 9)]) (c_X6_digit l Z _ hin hdB _ _ (by omega) (by omega)) cw_RX6_135 wd_10_0 wd_10_1 rfl rfl rfl rfl (Nat.le_of_ble_eq_true rfl) rfl rfl (Nat.le_of_ble_eq_true rfl) (Nat.le_of_ble_eq_true rfl) dX6_readMember_139 (fun r139 x139 hp139 => ?_)
        obtain ⟨rfl, hf139, hd139⟩ := hp139
        refine SM_readView C (by omega) dX6_readMember_142 ?_
        have hdC : Rm (mA x139 25 (upd (x139.2 25) j (less1 (dgt c n (p + 1 + 1) 0 9)))) s n c (p + 1 + 1 + adv (dgt c n (p + 1 + 1) 0 9)) := (hd139).arr (by decide)
        have hgC : FN 20 21 23 26 x (mA x139 25 (upd (x139.2 25) j (less1 (dgt c n (p + 1 + 1) 0 9)))) := (hgB.tr hf139.g).tr (FN.arr (by omega) (by omega))
        have hjC : ((mA x139 25 (upd (x139.2 25) j (less1 (dgt c n (p + 1 + 1) 0 9))))).1 20 = nI j := (hf139.2 _ (by omega)).trans hjB
        have haC : ((mA x139 25 (upd (x139.2 25) j (less1 (dgt c n (p + 1 + 1) 0 9))))).2 25 = upd (x.2 25) j (less1 (dgt c n (p + 1 + 1) 0 9)) := mA_eq.trans (by rw [hf139.1, haO5])
        have haA4 : ((mA x139 25 (upd (x139.2 25) j (less1 (dgt c n (p + 1 + 1) 0 9))))).2 23 = upd (x.2 23) j (less1 (knd c n p)) := (mA_ne (by omega)).trans (by rw [hf139.1]; exact haA3)
        have haB2 : ((mA x139 25 (upd (x139.2 25) j (less1 (dgt c n (p + 1 + 1) 0 9))))).2 24 = upd (x.2 24) j (less1 (dgt c n (p + 1) 0 (P - 1))) := (mA_ne (by omega)).trans (by rw [hf139.1]; exact haB)
        generalize mA x139 25 (upd (x139.2 25) j (less1 (dgt c n (p + 1 + 1) 0 9))) = yC at hdC hgC hjC haC haA4 haB2 ⊢
        refine J_aload_n C dX6_readMember_143 rfl rfl ?_
        refine J_dup C dX6_readMember_144 rfl ?_
        refine G6_readMembers C wd_9_15 dX6_readMember_145 ?_
        rw [show yC.1 20 = nI j from hjC]
        refine J_iconst C (v := nI 1) dX6_readMember_148 (by decide) ?_
        refine J_iadd C (v := nI (j + 1)) dX6_readMember_149 (nI_add _ _) ?_
        refine P6_readMembers C wd_9_15 dX6_readMember_150 ?_
        have hdD : Rm (mI yC 20 (nI (j + 1))) s n c (p + 1 + 1 + adv (dgt c n (p + 1 + 1) 0 9)) := hdC.int (by decide)
        have hgD : FN 20 21 23 26 x (mI yC 20 (nI (j + 1))) := hgC.tr (FN.int (by omega) (by omega))
        have hjD : ((mI yC 20 (nI (j + 1)))).1 20 = nI (j + 1) := mI_eq
        have haD : ((mI yC 20 (nI (j + 1)))).2 25 = upd (x.2 25) j (less1 (dgt c n (p + 1 + 1) 0 9)) := haC
        have haA5 : ((mI yC 20 (nI (j + 1)))).2 23 = upd (x.2 23) j (less1 (knd c n p)) := haA4
        have haB3 : ((mI yC 20 (nI (j + 1)))).2 24 = upd (x.2 24) j (less1 (dgt c n (p + 1) 0 (P - 1))) := haB2
        generalize mI yC 20 (nI (j + 1)) = yD at hdD hgD hjD haD haA5 haB3 ⊢
        refine J_aload_n C dX6_readMember_153 rfl rfl ?_
        refine G6_readView C wd_4_6 dX6_readMember_154 ?_
        refine J_aload_n C dX6_readMember_157 rfl rfl ?_
        refine G6_readMembers C wd_9_15 dX6_readMember_158 ?_
        rw [show yD.1 20 = nI (j + 1) from hjD]
        refine J_iconst C (v := nI 1) dX6_readMember_161 (by decide) ?_
        refine J_isub C (v := nI j) dX6_readMember_162 (pk_sub (a := j + 1) (b := 1) (by omega)) ?_
        refine LM_readView C (v := less1 (dgt c n (p + 1 + 1) 0 9)) (by omega) ((congrFun haD j).trans upd_eq) dX6_readMember_163 ?_
        refine J_bipush C (v := (-9)) dX6_readMember_164 (by decide) ?_
        refine J_icmp_eq C (tgt := 173) dX6_readMember_166 (by decide) (fun c166 => ?_) (fun c166 => ?_)
        · skip
          have z3 : dgt c n (p + 1 + 1) 0 9 = 0 := less1_eq c166 (by have : dgt c n (p + 1 + 1) 0 9 ≤ 10 := dgt_le; omega)
          refine J_iconst C (v := nI 0) dX6_readMember_173 (by decide) ?_
          exact E (b := false) dX6_readMember_174 (⟨hgD, Or.inr (Or.inr (Or.inl ⟨rfl, z1, z2, z3, by rw [adv_z z3] at hdD; exact hdD⟩))⟩)
        · skip
          have z3 : dgt c n (p + 1 + 1) 0 9 ≠ 0 := fun e => c166 (by rw [e]; rfl)
          rw [adv1 z3] at hdD
          refine J_iconst C (v := nI 1) dX6_readMember_169 (by decide) ?_
          refine J_goto (tgt := 174) C dX6_readMember_170 (by decide) ?_
          exact E (b := true) dX6_readMember_174 (⟨hgD, Or.inr (Or.inr (Or.inr ⟨rfl, z1, z2, z3, hdD, hjD, by rw [haA5, less1_n z1], by rw [haB3, less1_n z2], by rw [haD, less1_n z3]⟩))⟩)
      · skip
        have z2 : dgt c n (p + 1) 0 (P - 1) = 0 := less1_eq c121 (by have : dgt c n (p + 1) 0 (P - 1) ≤ P - 1 + 1 := dgt_le; omega)
        refine J_iconst C (v := nI 0) dX6_readMember_124 (by decide) ?_
        exact E (b := false) dX6_readMember_125 (⟨hgB, Or.inr (Or.inl ⟨rfl, z1, z2, by rw [adv_z z2] at hdB; exact hdB⟩)⟩)
    · skip
      have z1 : knd c n p = 0 := less1_eq c74 (by have : knd c n p ≤ 3 := knd_le; omega)
      refine J_iconst C (v := nI 0) dX6_readMember_77 (by decide) ?_
      exact E (b := false) dX6_readMember_78 (⟨hgA, Or.inl ⟨rfl, z1, hdA⟩⟩)
  · skip
    refine J_aload_n C dX6_readMember_8 rfl rfl ?_
    refine G6_cells C wd_3_20 dX6_readMember_9 ?_
    refine J_aload_n C dX6_readMember_12 rfl rfl ?_
    refine G6_at C wd_8_15 dX6_readMember_13 ?_
    rw [show x.1 15 = nI (s + p) from hd.2.1]
    refine LM_cells C (v := c p) (by omega) (hd.2.2 p (by omega)) dX6_readMember_16 ?_
    refine J_goto (tgt := 21) C dX6_readMember_17 (by decide) ?_
    refine J_istore_n C (L' := [some (.ref (Z.2.1 0)), some (.int (nI (s + n))), some (.int (c p))]) dX6_readMember_21 rfl (by decide) rfl rfl ?_
    refine J_aload_n C dX6_readMember_22 rfl rfl ?_
    refine G6_readKind C wd_4_4 dX6_readMember_23 ?_
    refine J_aload_n C dX6_readMember_26 rfl rfl ?_
    refine G6_readMembers C wd_9_15 dX6_readMember_27 ?_
    rw [show x.1 20 = nI j from hpj]
    refine J_iload_n C dX6_readMember_30 rfl rfl ?_
    refine J_bipush C (v := nI 115) dX6_readMember_31 (by decide) ?_
    refine J_icmp_ne C (tgt := 40) dX6_readMember_33 (by decide) (fun c33 => ?_) (fun c33 => ?_)
    · skip
      refine J_iload_n C dX6_readMember_40 rfl rfl ?_
      refine J_bipush C (v := nI 99) dX6_readMember_41 (by decide) ?_
      refine J_icmp_ne C (tgt := 50) dX6_readMember_43 (by decide) (fun c43 => ?_) (fun c43 => ?_)
      · skip
        refine J_iload_n C dX6_readMember_50 rfl rfl ?_
        refine J_bipush C (v := nI 108) dX6_readMember_51 (by decide) ?_
        refine J_icmp_ne C (tgt := 60) dX6_readMember_53 (by decide) (fun c53 => ?_) (fun c53 => ?_)
        · skip
          first | (have hz := knd_m0 (c := c) (n := n) (p := p) c33 c43 c53) | skip
          refine J_bipush C (v := less1 (knd c n p)) dX6_readMember_60 (by rw [hz]; decide) ?_
          refine SM_readKind C (by omega) dX6_readMember_62 ?_
          have hdA : Rm (mA x 23 (upd (x.2 23) j (less1 (knd c n p)))) s n c (p) := (hd).arr (by decide)
          have hgA : FN 20 21 23 26 x (mA x 23 (upd (x.2 23) j (less1 (knd c n p)))) := (FN.rf (a := 20) (b := 21) (c := 23) (d := 26) (x := x)).tr (FN.arr (by omega) (by omega))
          have hjA : ((mA x 23 (upd (x.2 23) j (less1 (knd c n p))))).1 20 = nI j := hpj
          have hPA : ((mA x 23 (upd (x.2 23) j (less1 (knd c n p))))).1 19 = nI P := hP0
          have haA : ((mA x 23 (upd (x.2 23) j (less1 (knd c n p))))).2 23 = upd (x.2 23) j (less1 (knd c n p)) := mA_eq
          have haO : ((mA x 23 (upd (x.2 23) j (less1 (knd c n p))))).2 24 = x.2 24 := (mA_ne (by omega))
          have haO2 : ((mA x 23 (upd (x.2 23) j (less1 (knd c n p))))).2 25 = x.2 25 := (mA_ne (by omega))
          generalize mA x 23 (upd (x.2 23) j (less1 (knd c n p))) = yA at hdA hgA hjA hPA haA haO haO2 ⊢
          refine J_aload_n C dX6_readMember_63 rfl rfl ?_
          refine G6_readKind C wd_4_4 dX6_readMember_64 ?_
          refine J_aload_n C dX6_readMember_67 rfl rfl ?_
          refine G6_readMembers C wd_9_15 dX6_readMember_68 ?_
          rw [show yA.1 20 = nI j from hjA]
          refine LM_readKind C (v := less1 (knd c n p)) (by omega) ((congrFun haA j).trans upd_eq) dX6_readMember_71 ?_
          refine J_bipush C (v := (-9)) dX6_readMember_72 (by decide) ?_
          refine J_icmp_ne C (tgt := 79) dX6_readMember_74 (by decide) (fun c74 => ?_) (fun c74 => ?_)
          · skip
            have z1 : knd c n p ≠ 0 := fun e => c74 (by rw [e]; rfl)
            have hpn := (knd_in z1).1
            refine J_aload_n C dX6_readMember_79 rfl rfl ?_
            refine J_dup C dX6_readMember_80 rfl ?_
            refine G6_at C wd_8_15 dX6_readMember_81 ?_
            rw [show yA.1 15 = nI (s + p) from hdA.2.1]
            refine J_iconst C (v := nI 1) dX6_readMember_84 (by decide) ?_
            refine J_iadd C (v := nI ((s + p) + 1)) dX6_readMember_85 (nI_add _ _) ?_
            refine P6_at C wd_8_15 dX6_readMember_86 ?_
            have hdA2 : Rm (mI yA 15 (nI ((s + p) + 1))) s n c (p + 1) := hdA.at (by omega)
            have hgA2 : FN 20 21 23 26 x (mI yA 15 (nI ((s + p) + 1))) := hgA.tr F15.int.g
            have hjA2 : ((mI yA 15 (nI ((s + p) + 1)))).1 20 = nI j := hjA
            have hPA2 : ((mI yA 15 (nI ((s + p) + 1)))).1 19 = nI P := hPA
            have haA2 : ((mI yA 15 (nI ((s + p) + 1)))).2 23 = upd (x.2 23) j (less1 (knd c n p)) := haA
            have haO3 : ((mI yA 15 (nI ((s + p) + 1)))).2 24 = x.2 24 := haO
            have haO4 : ((mI yA 15 (nI ((s + p) + 1)))).2 25 = x.2 25 := haO2
            generalize mI yA 15 (nI ((s + p) + 1)) = yA2 at hdA2 hgA2 hjA2 hPA2 haA2 haO3 haO4 ⊢
            refine J_aload_n C dX6_readMember_89 rfl rfl ?_
            refine G6_readPoolOf C wd_4_5 dX6_readMember_90 ?_
            refine J_aload_n C dX6_readMember_93 rfl rfl ?_
            refine G6_readMembers C wd_9_15 dX6_readMember_94 ?_
            rw [show yA2.1 20 = nI j from hjA2]
            refine J_aload_n C dX6_readMember_97 rfl rfl ?_
            refine J_iload_n C dX6_readMember_98 rfl rfl ?_
            refine J_iconst C (v := nI 0) dX6_readMember_99 (by decide) ?_
            refine J_aload_n C dX6_readMember_100 rfl rfl ?_
            refine G6_readPools C wd_9_14 dX6_readMember_101 ?_
            rw [show yA2.1 19 = nI P from hPA2]
            refine J_iconst C (v := nI 1) dX6_readMember_104 (by decide) ?_
            refine J_isub C (v := nI (P - 1)) dX6_readMember_105 (pk_sub (a := P) (b := 1) (by omega)) ?_
            refine J_callVi C (q0 := 0) (ci := 6) (N := 33) (As := [.int (nI (s + n)), .int (nI 0), .int (nI (P - 1))]) (c_X6_digit l Z _ hin hdA2 _ _ (by omega) (by omega)) cw_RX6_135 wd_10_0 wd_10_1 rfl rfl rfl rfl (Nat.le_of_ble_eq_true rfl) rfl rfl (Nat.le_of_ble_eq_true rfl) (Nat.le_of_ble_eq_true rfl) dX6_readMember_106 (fun r106 x106 hp106 => ?_)
            obtain ⟨rfl, hf106, hd106⟩ := hp106
            refine SM_readPoolOf C (by omega) dX6_readMember_109 ?_
            have hdB : Rm (mA x106 24 (upd (x106.2 24) j (less1 (dgt c n (p + 1) 0 (P - 1))))) s n c (p + 1 + adv (dgt c n (p + 1) 0 (P - 1))) := (hd106).arr (by decide)
            have hgB : FN 20 21 23 26 x (mA x106 24 (upd (x106.2 24) j (less1 (dgt c n (p + 1) 0 (P - 1))))) := (hgA2.tr hf106.g).tr (FN.arr (by omega) (by omega))
            have hjB : ((mA x106 24 (upd (x106.2 24) j (less1 (dgt c n (p + 1) 0 (P - 1)))))).1 20 = nI j := (hf106.2 _ (by omega)).trans hjA2
            have haB : ((mA x106 24 (upd (x106.2 24) j (less1 (dgt c n (p + 1) 0 (P - 1)))))).2 24 = upd (x.2 24) j (less1 (dgt c n (p + 1) 0 (P - 1))) := mA_eq.trans (by rw [hf106.1, haO3])
            have haA3 : ((mA x106 24 (upd (x106.2 24) j (less1 (dgt c n (p + 1) 0 (P - 1)))))).2 23 = upd (x.2 23) j (less1 (knd c n p)) := (mA_ne (by omega)).trans (by rw [hf106.1]; exact haA2)
            have haO5 : ((mA x106 24 (upd (x106.2 24) j (less1 (dgt c n (p + 1) 0 (P - 1)))))).2 25 = x.2 25 := (mA_ne (by omega)).trans (by rw [hf106.1]; exact haO4)
            generalize mA x106 24 (upd (x106.2 24) j (less1 (dgt c n (p + 1) 0 (P - 1)))) = yB at hdB hgB hjB haB haA3 haO5 ⊢
            refine J_aload_n C dX6_readMember_110 rfl rfl ?_
            refine G6_readPoolOf C wd_4_5 dX6_readMember_111 ?_
            refine J_aload_n C dX6_readMember_114 rfl rfl ?_
            refine G6_readMembers C wd_9_15 dX6_readMember_115 ?_
            rw [show yB.1 20 = nI j from hjB]
            refine LM_readPoolOf C (v := less1 (dgt c n (p + 1) 0 (P - 1))) (by omega) ((congrFun haB j).trans upd_eq) dX6_readMember_118 ?_
            refine J_bipush C (v := (-9)) dX6_readMember_119 (by decide) ?_
            refine J_icmp_ne C (tgt := 126) dX6_readMember_121 (by decide) (fun c121 => ?_) (fun c121 => ?_)
            · skip
              have z2 : dgt c n (p + 1) 0 (P - 1) ≠ 0 := fun e => c121 (by rw [e]; rfl)
              rw [adv1 z2] at hdB
              refine J_aload_n C dX6_readMember_126 rfl rfl ?_
              refine G6_readView C wd_4_6 dX6_readMember_127 ?_
              refine J_aload_n C dX6_readMember_130 rfl rfl ?_
              refine G6_readMembers C wd_9_15 dX6_readMember_131 ?_
              rw [show yB.1 20 = nI j from hjB]
              refine J_aload_n C dX6_readMember_134 rfl rfl ?_
              refine J_iload_n C dX6_readMember_135 rfl rfl ?_
              refine J_iconst C (v := nI 0) dX6_readMember_136 (by decide) ?_
              refine J_bipush C (v := nI 9) dX6_readMember_137 (by decide) ?_
              refine J_callVi C (q0 := 0) (ci := 6) (N := 33) (As := [.int (nI (s + n)), .int (nI 0), .int (nI 9)]) (c_X6_digit l Z _ hin hdB _ _ (by omega) (by omega)) cw_RX6_135 wd_10_0 wd_10_1 rfl rfl rfl rfl (Nat.le_of_ble_eq_true rfl) rfl rfl (Nat.le_of_ble_eq_true rfl) (Nat.le_of_ble_eq_true rfl) dX6_readMember_139 (fun r139 x139 hp139 => ?_)
              obtain ⟨rfl, hf139, hd139⟩ := hp139
              refine SM_readView C (by omega) dX6_readMember_142 ?_
              have hdC : Rm (mA x139 25 (upd (x139.2 25) j (less1 (dgt c n (p + 1 + 1) 0 9)))) s n c (p + 1 + 1 + adv (dgt c n (p + 1 + 1) 0 9)) := (hd139).arr (by decide)
              have hgC : FN 20 21 23 26 x (mA x139 25 (upd (x139.2 25) j (less1 (dgt c n (p + 1 + 1) 0 9)))) := (hgB.tr hf139.g).tr (FN.arr (by omega) (by omega))
              have hjC : ((mA x139 25 (upd (x139.2 25) j (less1 (dgt c n (p + 1 + 1) 0 9))))).1 20 = nI j := (hf139.2 _ (by omega)).trans hjB
              have haC : ((mA x139 25 (upd (x139.2 25) j (less1 (dgt c n (p + 1 + 1) 0 9))))).2 25 = upd (x.2 25) j (less1 (dgt c n (p + 1 + 1) 0 9)) := mA_eq.trans (by rw [hf139.1, haO5])
              have haA4 : ((mA x139 25 (upd (x139.2 25) j (less1 (dgt c n (p + 1 + 1) 0 9))))).2 23 = upd (x.2 23) j (less1 (knd c n p)) := (mA_ne (by omega)).trans (by rw [hf139.1]; exact haA3)
              have haB2 : ((mA x139 25 (upd (x139.2 25) j (less1 (dgt c n (p + 1 + 1) 0 9))))).2 24 = upd (x.2 24) j (less1 (dgt c n (p + 1) 0 (P - 1))) := (mA_ne (by omega)).trans (by rw [hf139.1]; exact haB)
              generalize mA x139 25 (upd (x139.2 25) j (less1 (dgt c n (p + 1 + 1) 0 9))) = yC at hdC hgC hjC haC haA4 haB2 ⊢
              refine J_aload_n C dX6_readMember_143 rfl rfl ?_
              refine J_dup C dX6_readMember_144 rfl ?_
              refine G6_readMembers C wd_9_15 dX6_readMember_145 ?_
              rw [show yC.1 20 = nI j from hjC]
              refine J_iconst C (v := nI 1) dX6_readMember_148 (by decide) ?_
              refine J_iadd C (v := nI (j + 1)) dX6_readMember_149 (nI_add _ _) ?_
              refine P6_readMembers C wd_9_15 dX6_readMember_150 ?_
              have hdD : Rm (mI yC 20 (nI (j + 1))) s n c (p + 1 + 1 + adv (dgt c n (p + 1 + 1) 0 9)) := hdC.int (by decide)
              have hgD : FN 20 21 23 26 x (mI yC 20 (nI (j + 1))) := hgC.tr (FN.int (by omega) (by omega))
              have hjD : ((mI yC 20 (nI (j + 1)))).1 20 = nI (j + 1) := mI_eq
              have haD : ((mI yC 20 (nI (j + 1)))).2 25 = upd (x.2 25) j (less1 (dgt c n (p + 1 + 1) 0 9)) := haC
              have haA5 : ((mI yC 20 (nI (j + 1)))).2 23 = upd (x.2 23) j (less1 (knd c n p)) := haA4
              have haB3 : ((mI yC 20 (nI (j + 1)))).2 24 = upd (x.2 24) j (less1 (dgt c n (p + 1) 0 (P - 1))) := haB2
              generalize mI yC 20 (nI (j + 1)) = yD at hdD hgD hjD haD haA5 haB3 ⊢
              refine J_aload_n C dX6_readMember_153 rfl rfl ?_
              refine G6_readView C wd_4_6 dX6_readMember_154 ?_
              refine J_aload_n C dX6_readMember_157 rfl rfl ?_
              refine G6_readMembers C wd_9_15 dX6_readMember_158 ?_
              rw [show yD.1 20 = nI (j + 1) from hjD]
              refine J_iconst C (v := nI 1) dX6_readMember_161 (by decide) ?_
              refine J_isub C (v := nI j) dX6_readMember_162 (pk_sub (a := j + 1) (b := 1) (by omega)) ?_
              refine LM_readView C (v := less1 (dgt c n (p + 1 + 1) 0 9)) (by omega) ((congrFun haD j).trans upd_eq) dX6_readMember_163 ?_
              refine J_bipush C (v := (-9)) dX6_readMember_164 (by decide) ?_
              refine J_icmp_eq C (tgt := 173) dX6_readMember_166 (by decide) (fun c166 => ?_) (fun c166 => ?_)
              · skip
                have z3 : dgt c n (p + 1 + 1) 0 9 = 0 := less1_eq c166 (by have : dgt c n (p + 1 + 1) 0 9 ≤ 10 := dgt_le; omega)
                refine J_iconst C (v := nI 0) dX6_readMember_173 (by decide) ?_
                exact E (b := false) dX6_readMember_174 (⟨hgD, Or.inr (Or.inr (Or.inl ⟨rfl, z1, z2, z3, by rw [adv_z z3] at hdD; exact hdD⟩))⟩)
              · skip
                have z3 : dgt c n (p + 1 + 1) 0 9 ≠ 0 := fun e => c166 (by rw [e]; rfl)
                rw [adv1 z3] at hdD
                refine J_iconst C (v := nI 1) dX6_readMember_169 (by decide) ?_
                refine J_goto (tgt := 174) C dX6_readMember_170 (by decide) ?_
                exact E (b := true) dX6_readMember_174 (⟨hgD, Or.inr (Or.inr (Or.inr ⟨rfl, z1, z2, z3, hdD, hjD, by rw [haA5, less1_n z1], by rw [haB3, less1_n z2], by rw [haD, less1_n z3]⟩))⟩)
            · skip
              have z2 : dgt c n (p + 1) 0 (P - 1) = 0 := less1_eq c121 (by have : dgt c n (p + 1) 0 (P - 1) ≤ P - 1 + 1 := dgt_le; omega)
              refine J_iconst C (v := nI 0) dX6_readMember_124 (by decide) ?_
              exact E (b := false) dX6_readMember_125 (⟨hgB, Or.inr (Or.inl ⟨rfl, z1, z2, by rw [adv_z z2] at hdB; exact hdB⟩)⟩)
          · skip
            have z1 : knd c n p = 0 := less1_eq c74 (by have : knd c n p ≤ 3 := knd_le; omega)
            refine J_iconst C (v := nI 0) dX6_readMember_77 (by decide) ?_
            exact E (b := false) dX6_readMember_78 (⟨hgA, Or.inl ⟨rfl, z1, hdA⟩⟩)
        · skip
          have hz := knd_m3 (c := c) (n := n) (p := p) (by omega) c33 c43 c53
          refine J_iconst C (v := less1 (knd c n p)) dX6_readMember_56 (by rw [hz]; decide) ?_
          refine J_goto (tgt := 62) C dX6_readMember_57 (by decide) ?_
          refine SM_readKind C (by omega) dX6_readMember_62 ?_
          have hdA : Rm (mA x 23 (upd (x.2 23) j (less1 (knd c n p)))) s n c (p) := (hd).arr (by decide)
          have hgA : FN 20 21 23 26 x (mA x 23 (upd (x.2 23) j (less1 (knd c n p)))) := (FN.rf (a := 20) (b := 21) (c := 23) (d := 26) (x := x)).tr (FN.arr (by omega) (by omega))
          have hjA : ((mA x 23 (upd (x.2 23) j (less1 (knd c n p))))).1 20 = nI j := hpj
          have hPA : ((mA x 23 (upd (x.2 23) j (less1 (knd c n p))))).1 19 = nI P := hP0
          have haA : ((mA x 23 (upd (x.2 23) j (less1 (knd c n p))))).2 23 = upd (x.2 23) j (less1 (knd c n p)) := mA_eq
          have haO : ((mA x 23 (upd (x.2 23) j (less1 (knd c n p))))).2 24 = x.2 24 := (mA_ne (by omega))
          have haO2 : ((mA x 23 (upd (x.2 23) j (less1 (knd c n p))))).2 25 = x.2 25 := (mA_ne (by omega))
          generalize mA x 23 (upd (x.2 23) j (less1 (knd c n p))) = yA at hdA hgA hjA hPA haA haO haO2 ⊢
          refine J_aload_n C dX6_readMember_63 rfl rfl ?_
          refine G6_readKind C wd_4_4 dX6_readMember_64 ?_
          refine J_aload_n C dX6_readMember_67 rfl rfl ?_
          refine G6_readMembers C wd_9_15 dX6_readMember_68 ?_
          rw [show yA.1 20 = nI j from hjA]
          refine LM_readKind C (v := less1 (knd c n p)) (by omega) ((congrFun haA j).trans upd_eq) dX6_readMember_71 ?_
          refine J_bipush C (v := (-9)) dX6_readMember_72 (by decide) ?_
          refine J_icmp_ne C (tgt := 79) dX6_readMember_74 (by decide) (fun c74 => ?_) (fun c74 => ?_)
          · skip
            have z1 : knd c n p ≠ 0 := fun e => c74 (by rw [e]; rfl)
            have hpn := (knd_in z1).1
            refine J_aload_n C dX6_readMember_79 rfl rfl ?_
            refine J_dup C dX6_readMember_80 rfl ?_
            refine G6_at C wd_8_15 dX6_readMember_81 ?_
            rw [show yA.1 15 = nI (s + p) from hdA.2.1]
            refine J_iconst C (v := nI 1) dX6_readMember_84 (by decide) ?_
            refine J_iadd C (v := nI ((s + p) + 1)) dX6_readMember_85 (nI_add _ _) ?_
            refine P6_at C wd_8_15 dX6_readMember_86 ?_
            have hdA2 : Rm (mI yA 15 (nI ((s + p) + 1))) s n c (p + 1) := hdA.at (by omega)
            have hgA2 : FN 20 21 23 26 x (mI yA 15 (nI ((s + p) + 1))) := hgA.tr F15.int.g
            have hjA2 : ((mI yA 15 (nI ((s + p) + 1)))).1 20 = nI j := hjA
            have hPA2 : ((mI yA 15 (nI ((s + p) + 1)))).1 19 = nI P := hPA
            have haA2 : ((mI yA 15 (nI ((s + p) + 1)))).2 23 = upd (x.2 23) j (less1 (knd c n p)) := haA
            have haO3 : ((mI yA 15 (nI ((s + p) + 1)))).2 24 = x.2 24 := haO
            have haO4 : ((mI yA 15 (nI ((s + p) + 1)))).2 25 = x.2 25 := haO2
            generalize mI yA 15 (nI ((s + p) + 1)) = yA2 at hdA2 hgA2 hjA2 hPA2 haA2 haO3 haO4 ⊢
            refine J_aload_n C dX6_readMember_89 rfl rfl ?_
            refine G6_readPoolOf C wd_4_5 dX6_readMember_90 ?_
            refine J_aload_n C dX6_readMember_93 rfl rfl ?_
            refine G6_readMembers C wd_9_15 dX6_readMember_94 ?_
            rw [show yA2.1 20 = nI j from hjA2]
            refine J_aload_n C dX6_readMember_97 rfl rfl ?_
            refine J_iload_n C dX6_readMember_98 rfl rfl ?_
            refine J_iconst C (v := nI 0) dX6_readMember_99 (by decide) ?_
            refine J_aload_n C dX6_readMember_100 rfl rfl ?_
            refine G6_readPools C wd_9_14 dX6_readMember_101 ?_
            rw [show yA2.1 19 = nI P from hPA2]
            refine J_iconst C (v := nI 1) dX6_readMember_104 (by decide) ?_
            refine J_isub C (v := nI (P - 1)) dX6_readMember_105 (pk_sub (a := P) (b := 1) (by omega)) ?_
            refine J_callVi C (q0 := 0) (ci := 6) (N := 33) (As := [.int (nI (s + n)), .int (nI 0), .int (nI (P - 1))]) (c_X6_digit l Z _ hin hdA2 _ _ (by omega) (by omega)) cw_RX6_135 wd_10_0 wd_10_1 rfl rfl rfl rfl (Nat.le_of_ble_eq_true rfl) rfl rfl (Nat.le_of_ble_eq_true rfl) (Nat.le_of_ble_eq_true rfl) dX6_readMember_106 (fun r106 x106 hp106 => ?_)
            obtain ⟨rfl, hf106, hd106⟩ := hp106
            refine SM_readPoolOf C (by omega) dX6_readMember_109 ?_
            have hdB : Rm (mA x106 24 (upd (x106.2 24) j (less1 (dgt c n (p + 1) 0 (P - 1))))) s n c (p + 1 + adv (dgt c n (p + 1) 0 (P - 1))) := (hd106).arr (by decide)
            have hgB : FN 20 21 23 26 x (mA x106 24 (upd (x106.2 24) j (less1 (dgt c n (p + 1) 0 (P - 1))))) := (hgA2.tr hf106.g).tr (FN.arr (by omega) (by omega))
            have hjB : ((mA x106 24 (upd (x106.2 24) j (less1 (dgt c n (p + 1) 0 (P - 1)))))).1 20 = nI j := (hf106.2 _ (by omega)).trans hjA2
            have haB : ((mA x106 24 (upd (x106.2 24) j (less1 (dgt c n (p + 1) 0 (P - 1)))))).2 24 = upd (x.2 24) j (less1 (dgt c n (p + 1) 0 (P - 1))) := mA_eq.trans (by rw [hf106.1, haO3])
            have haA3 : ((mA x106 24 (upd (x106.2 24) j (less1 (dgt c n (p + 1) 0 (P - 1)))))).2 23 = upd (x.2 23) j (less1 (knd c n p)) := (mA_ne (by omega)).trans (by rw [hf106.1]; exact haA2)
            have haO5 : ((mA x106 24 (upd (x106.2 24) j (less1 (dgt c n (p + 1) 0 (P - 1)))))).2 25 = x.2 25 := (mA_ne (by omega)).trans (by rw [hf106.1]; exact haO4)
            generalize mA x106 24 (upd (x106.2 24) j (less1 (dgt c n (p + 1) 0 (P - 1)))) = yB at hdB hgB hjB haB haA3 haO5 ⊢
            refine J_aload_n C dX6_readMember_110 rfl rfl ?_
            refine G6_readPoolOf C wd_4_5 dX6_readMember_111 ?_
            refine J_aload_n C dX6_readMember_114 rfl rfl ?_
            refine G6_readMembers C wd_9_15 dX6_readMember_115 ?_
            rw [show yB.1 20 = nI j from hjB]
            refine LM_readPoolOf C (v := less1 (dgt c n (p + 1) 0 (P - 1))) (by omega) ((congrFun haB j).trans upd_eq) dX6_readMember_118 ?_
            refine J_bipush C (v := (-9)) dX6_readMember_119 (by decide) ?_
            refine J_icmp_ne C (tgt := 126) dX6_readMember_121 (by decide) (fun c121 => ?_) (fun c121 => ?_)
            · skip
              have z2 : dgt c n (p + 1) 0 (P - 1) ≠ 0 := fun e => c121 (by rw [e]; rfl)
              rw [adv1 z2] at hdB
              refine J_aload_n C dX6_readMember_126 rfl rfl ?_
              refine G6_readView C wd_4_6 dX6_readMember_127 ?_
              refine J_aload_n C dX6_readMember_130 rfl rfl ?_
              refine G6_readMembers C wd_9_15 dX6_readMember_131 ?_
              rw [show yB.1 20 = nI j from hjB]
              refine J_aload_n C dX6_readMember_134 rfl rfl ?_
              refine J_iload_n C dX6_readMember_135 rfl rfl ?_
              refine J_iconst C (v := nI 0) dX6_readMember_136 (by decide) ?_
              refine J_bipush C (v := nI 9) dX6_readMember_137 (by decide) ?_
              refine J_callVi C (q0 := 0) (ci := 6) (N := 33) (As := [.int (nI (s + n)), .int (nI 0), .int (nI 9)]) (c_X6_digit l Z _ hin hdB _ _ (by omega) (by omega)) cw_RX6_135 wd_10_0 wd_10_1 rfl rfl rfl rfl (Nat.le_of_ble_eq_true rfl) rfl rfl (Nat.le_of_ble_eq_true rfl) (Nat.le_of_ble_eq_true rfl) dX6_readMember_139 (fun r139 x139 hp139 => ?_)
              obtain ⟨rfl, hf139, hd139⟩ := hp139
              refine SM_readView C (by omega) dX6_readMember_142 ?_
              have hdC : Rm (mA x139 25 (upd (x139.2 25) j (less1 (dgt c n (p + 1 + 1) 0 9)))) s n c (p + 1 + 1 + adv (dgt c n (p + 1 + 1) 0 9)) := (hd139).arr (by decide)
              have hgC : FN 20 21 23 26 x (mA x139 25 (upd (x139.2 25) j (less1 (dgt c n (p + 1 + 1) 0 9)))) := (hgB.tr hf139.g).tr (FN.arr (by omega) (by omega))
              have hjC : ((mA x139 25 (upd (x139.2 25) j (less1 (dgt c n (p + 1 + 1) 0 9))))).1 20 = nI j := (hf139.2 _ (by omega)).trans hjB
              have haC : ((mA x139 25 (upd (x139.2 25) j (less1 (dgt c n (p + 1 + 1) 0 9))))).2 25 = upd (x.2 25) j (less1 (dgt c n (p + 1 + 1) 0 9)) := mA_eq.trans (by rw [hf139.1, haO5])
              have haA4 : ((mA x139 25 (upd (x139.2 25) j (less1 (dgt c n (p + 1 + 1) 0 9))))).2 23 = upd (x.2 23) j (less1 (knd c n p)) := (mA_ne (by omega)).trans (by rw [hf139.1]; exact haA3)
              have haB2 : ((mA x139 25 (upd (x139.2 25) j (less1 (dgt c n (p + 1 + 1) 0 9))))).2 24 = upd (x.2 24) j (less1 (dgt c n (p + 1) 0 (P - 1))) := (mA_ne (by omega)).trans (by rw [hf139.1]; exact haB)
              generalize mA x139 25 (upd (x139.2 25) j (less1 (dgt c n (p + 1 + 1) 0 9))) = yC at hdC hgC hjC haC haA4 haB2 ⊢
              refine J_aload_n C dX6_readMember_143 rfl rfl ?_
              refine J_dup C dX6_readMember_144 rfl ?_
              refine G6_readMembers C wd_9_15 dX6_readMember_145 ?_
              rw [show yC.1 20 = nI j from hjC]
              refine J_iconst C (v := nI 1) dX6_readMember_148 (by decide) ?_
              refine J_iadd C (v := nI (j + 1)) dX6_readMember_149 (nI_add _ _) ?_
              refine P6_readMembers C wd_9_15 dX6_readMember_150 ?_
              have hdD : Rm (mI yC 20 (nI (j + 1))) s n c (p + 1 + 1 + adv (dgt c n (p + 1 + 1) 0 9)) := hdC.int (by decide)
              have hgD : FN 20 21 23 26 x (mI yC 20 (nI (j + 1))) := hgC.tr (FN.int (by omega) (by omega))
              have hjD : ((mI yC 20 (nI (j + 1)))).1 20 = nI (j + 1) := mI_eq
              have haD : ((mI yC 20 (nI (j + 1)))).2 25 = upd (x.2 25) j (less1 (dgt c n (p + 1 + 1) 0 9)) := haC
              have haA5 : ((mI yC 20 (nI (j + 1)))).2 23 = upd (x.2 23) j (less1 (knd c n p)) := haA4
              have haB3 : ((mI yC 20 (nI (j + 1)))).2 24 = upd (x.2 24) j (less1 (dgt c n (p + 1) 0 (P - 1))) := haB2
              generalize mI yC 20 (nI (j + 1)) = yD at hdD hgD hjD haD haA5 haB3 ⊢
              refine J_aload_n C dX6_readMember_153 rfl rfl ?_
              refine G6_readView C wd_4_6 dX6_readMember_154 ?_
              refine J_aload_n C dX6_readMember_157 rfl rfl ?_
              refine G6_readMembers C wd_9_15 dX6_readMember_158 ?_
              rw [show yD.1 20 = nI (j + 1) from hjD]
              refine J_iconst C (v := nI 1) dX6_readMember_161 (by decide) ?_
              refine J_isub C (v := nI j) dX6_readMember_162 (pk_sub (a := j + 1) (b := 1) (by omega)) ?_
              refine LM_readView C (v := less1 (dgt c n (p + 1 + 1) 0 9)) (by omega) ((congrFun haD j).trans upd_eq) dX6_readMember_163 ?_
              refine J_bipush C (v := (-9)) dX6_readMember_164 (by decide) ?_
              refine J_icmp_eq C (tgt := 173) dX6_readMember_166 (by decide) (fun c166 => ?_) (fun c166 => ?_)
              · skip
                have z3 : dgt c n (p + 1 + 1) 0 9 = 0 := less1_eq c166 (by have : dgt c n (p + 1 + 1) 0 9 ≤ 10 := dgt_le; omega)
                refine J_iconst C (v := nI 0) dX6_readMember_173 (by decide) ?_
                exact E (b := false) dX6_readMember_174 (⟨hgD, Or.inr (Or.inr (Or.inl ⟨rfl, z1, z2, z3, by rw [adv_z z3] at hdD; exact hdD⟩))⟩)
              · skip
                have z3 : dgt c n (p + 1 + 1) 0 9 ≠ 0 := fun e => c166 (by rw [e]; rfl)
                rw [adv1 z3] at hdD
                refine J_iconst C (v := nI 1) dX6_readMember_169 (by decide) ?_
                refine J_goto (tgt := 174) C dX6_readMember_170 (by decide) ?_
                exact E (b := true) dX6_readMember_174 (⟨hgD, Or.inr (Or.inr (Or.inr ⟨rfl, z1, z2, z3, hdD, hjD, by rw [haA5, less1_n z1], by rw [haB3, less1_n z2], by rw [haD, less1_n z3]⟩))⟩)
            · skip
              have z2 : dgt c n (p + 1) 0 (P - 1) = 0 := less1_eq c121 (by have : dgt c n (p + 1) 0 (P - 1) ≤ P - 1 + 1 := dgt_le; omega)
              refine J_iconst C (v := nI 0) dX6_readMember_124 (by decide) ?_
              exact E (b := false) dX6_readMember_125 (⟨hgB, Or.inr (Or.inl ⟨rfl, z1, z2, by rw [adv_z z2] at hdB; exact hdB⟩)⟩)
          · skip
            have z1 : knd c n p = 0 := less1_eq c74 (by have : knd c n p ≤ 3 := knd_le; omega)
            refine J_iconst C (v := nI 0) dX6_readMember_77 (by decide) ?_
            exact E (b := false) dX6_readMember_78 (⟨hgA, Or.inl ⟨rfl, z1, hdA⟩⟩)
      · skip
        have hz := knd_m2 (c := c) (n := n) (p := p) (by omega) c33 c43
        refine J_iconst C (v := less1 (knd c n p)) dX6_readMember_46 (by rw [hz]; decide) ?_
        refine J_goto (tgt := 62) C dX6_readMember_47 (by decide) ?_
        refine SM_readKind C (by omega) dX6_readMember_62 ?_
        have hdA : Rm (mA x 23 (upd (x.2 23) j (less1 (knd c n p)))) s n c (p) := (hd).arr (by decide)
        have hgA : FN 20 21 23 26 x (mA x 23 (upd (x.2 23) j (less1 (knd c n p)))) := (FN.rf (a := 20) (b := 21) (c := 23) (d := 26) (x := x)).tr (FN.arr (by omega) (by omega))
        have hjA : ((mA x 23 (upd (x.2 23) j (less1 (knd c n p))))).1 20 = nI j := hpj
        have hPA : ((mA x 23 (upd (x.2 23) j (less1 (knd c n p))))).1 19 = nI P := hP0
        have haA : ((mA x 23 (upd (x.2 23) j (less1 (knd c n p))))).2 23 = upd (x.2 23) j (less1 (knd c n p)) := mA_eq
        have haO : ((mA x 23 (upd (x.2 23) j (less1 (knd c n p))))).2 24 = x.2 24 := (mA_ne (by omega))
        have haO2 : ((mA x 23 (upd (x.2 23) j (less1 (knd c n p))))).2 25 = x.2 25 := (mA_ne (by omega))
        generalize mA x 23 (upd (x.2 23) j (less1 (knd c n p))) = yA at hdA hgA hjA hPA haA haO haO2 ⊢
        refine J_aload_n C dX6_readMember_63 rfl rfl ?_
        refine G6_readKind C wd_4_4 dX6_readMember_64 ?_
        refine J_aload_n C dX6_readMember_67 rfl rfl ?_
        refine G6_readMembers C wd_9_15 dX6_readMember_68 ?_
        rw [show yA.1 20 = nI j from hjA]
        refine LM_readKind C (v := less1 (knd c n p)) (by omega) ((congrFun haA j).trans upd_eq) dX6_readMember_71 ?_
        refine J_bipush C (v := (-9)) dX6_readMember_72 (by decide) ?_
        refine J_icmp_ne C (tgt := 79) dX6_readMember_74 (by decide) (fun c74 => ?_) (fun c74 => ?_)
        · skip
          have z1 : knd c n p ≠ 0 := fun e => c74 (by rw [e]; rfl)
          have hpn := (knd_in z1).1
          refine J_aload_n C dX6_readMember_79 rfl rfl ?_
          refine J_dup C dX6_readMember_80 rfl ?_
          refine G6_at C wd_8_15 dX6_readMember_81 ?_
          rw [show yA.1 15 = nI (s + p) from hdA.2.1]
          refine J_iconst C (v := nI 1) dX6_readMember_84 (by decide) ?_
          refine J_iadd C (v := nI ((s + p) + 1)) dX6_readMember_85 (nI_add _ _) ?_
          refine P6_at C wd_8_15 dX6_readMember_86 ?_
          have hdA2 : Rm (mI yA 15 (nI ((s + p) + 1))) s n c (p + 1) := hdA.at (by omega)
          have hgA2 : FN 20 21 23 26 x (mI yA 15 (nI ((s + p) + 1))) := hgA.tr F15.int.g
          have hjA2 : ((mI yA 15 (nI ((s + p) + 1)))).1 20 = nI j := hjA
          have hPA2 : ((mI yA 15 (nI ((s + p) + 1)))).1 19 = nI P := hPA
          have haA2 : ((mI yA 15 (nI ((s + p) + 1)))).2 23 = upd (x.2 23) j (less1 (knd c n p)) := haA
          have haO3 : ((mI yA 15 (nI ((s + p) + 1)))).2 24 = x.2 24 := haO
          have haO4 : ((mI yA 15 (nI ((s + p) + 1)))).2 25 = x.2 25 := haO2
          generalize mI yA 15 (nI ((s + p) + 1)) = yA2 at hdA2 hgA2 hjA2 hPA2 haA2 haO3 haO4 ⊢
          refine J_aload_n C dX6_readMember_89 rfl rfl ?_
          refine G6_readPoolOf C wd_4_5 dX6_readMember_90 ?_
          refine J_aload_n C dX6_readMember_93 rfl rfl ?_
          refine G6_readMembers C wd_9_15 dX6_readMember_94 ?_
          rw [show yA2.1 20 = nI j from hjA2]
          refine J_aload_n C dX6_readMember_97 rfl rfl ?_
          refine J_iload_n C dX6_readMember_98 rfl rfl ?_
          refine J_iconst C (v := nI 0) dX6_readMember_99 (by decide) ?_
          refine J_aload_n C dX6_readMember_100 rfl rfl ?_
          refine G6_readPools C wd_9_14 dX6_readMember_101 ?_
          rw [show yA2.1 19 = nI P from hPA2]
          refine J_iconst C (v := nI 1) dX6_readMember_104 (by decide) ?_
          refine J_isub C (v := nI (P - 1)) dX6_readMember_105 (pk_sub (a := P) (b := 1) (by omega)) ?_
          refine J_callVi C (q0 := 0) (ci := 6) (N := 33) (As := [.int (nI (s + n)), .int (nI 0), .int (nI (P - 1))]) (c_X6_digit l Z _ hin hdA2 _ _ (by omega) (by omega)) cw_RX6_135 wd_10_0 wd_10_1 rfl rfl rfl rfl (Nat.le_of_ble_eq_true rfl) rfl rfl (Nat.le_of_ble_eq_true rfl) (Nat.le_of_ble_eq_true rfl) dX6_readMember_106 (fun r106 x106 hp106 => ?_)
          obtain ⟨rfl, hf106, hd106⟩ := hp106
          refine SM_readPoolOf C (by omega) dX6_readMember_109 ?_
          have hdB : Rm (mA x106 24 (upd (x106.2 24) j (less1 (dgt c n (p + 1) 0 (P - 1))))) s n c (p + 1 + adv (dgt c n (p + 1) 0 (P - 1))) := (hd106).arr (by decide)
          have hgB : FN 20 21 23 26 x (mA x106 24 (upd (x106.2 24) j (less1 (dgt c n (p + 1) 0 (P - 1))))) := (hgA2.tr hf106.g).tr (FN.arr (by omega) (by omega))
          have hjB : ((mA x106 24 (upd (x106.2 24) j (less1 (dgt c n (p + 1) 0 (P - 1)))))).1 20 = nI j := (hf106.2 _ (by omega)).trans hjA2
          have haB : ((mA x106 24 (upd (x106.2 24) j (less1 (dgt c n (p + 1) 0 (P - 1)))))).2 24 = upd (x.2 24) j (less1 (dgt c n (p + 1) 0 (P - 1))) := mA_eq.trans (by rw [hf106.1, haO3])
          have haA3 : ((mA x106 24 (upd (x106.2 24) j (less1 (dgt c n (p + 1) 0 (P - 1)))))).2 23 = upd (x.2 23) j (less1 (knd c n p)) := (mA_ne (by omega)).trans (by rw [hf106.1]; exact haA2)
          have haO5 : ((mA x106 24 (upd (x106.2 24) j (less1 (dgt c n (p + 1) 0 (P - 1)))))).2 25 = x.2 25 := (mA_ne (by omega)).trans (by rw [hf106.1]; exact haO4)
          generalize mA x106 24 (upd (x106.2 24) j (less1 (dgt c n (p + 1) 0 (P - 1)))) = yB at hdB hgB hjB haB haA3 haO5 ⊢
          refine J_aload_n C dX6_readMember_110 rfl rfl ?_
          refine G6_readPoolOf C wd_4_5 dX6_readMember_111 ?_
          refine J_aload_n C dX6_readMember_114 rfl rfl ?_
          refine G6_readMembers C wd_9_15 dX6_readMember_115 ?_
          rw [show yB.1 20 = nI j from hjB]
          refine LM_readPoolOf C (v := less1 (dgt c n (p + 1) 0 (P - 1))) (by omega) ((congrFun haB j).trans upd_eq) dX6_readMember_118 ?_
          refine J_bipush C (v := (-9)) dX6_readMember_119 (by decide) ?_
          refine J_icmp_ne C (tgt := 126) dX6_readMember_121 (by decide) (fun c121 => ?_) (fun c121 => ?_)
          · skip
            have z2 : dgt c n (p + 1) 0 (P - 1) ≠ 0 := fun e => c121 (by rw [e]; rfl)
            rw [adv1 z2] at hdB
            refine J_aload_n C dX6_readMember_126 rfl rfl ?_
            refine G6_readView C wd_4_6 dX6_readMember_127 ?_
            refine J_aload_n C dX6_readMember_130 rfl rfl ?_
            refine G6_readMembers C wd_9_15 dX6_readMember_131 ?_
            rw [show yB.1 20 = nI j from hjB]
            refine J_aload_n C dX6_readMember_134 rfl rfl ?_
            refine J_iload_n C dX6_readMember_135 rfl rfl ?_
            refine J_iconst C (v := nI 0) dX6_readMember_136 (by decide) ?_
            refine J_bipush C (v := nI 9) dX6_readMember_137 (by decide) ?_
            refine J_callVi C (q0 := 0) (ci := 6) (N := 33) (As := [.int (nI (s + n)), .int (nI 0), .int (nI 9)]) (c_X6_digit l Z _ hin hdB _ _ (by omega) (by omega)) cw_RX6_135 wd_10_0 wd_10_1 rfl rfl rfl rfl (Nat.le_of_ble_eq_true rfl) rfl rfl (Nat.le_of_ble_eq_true rfl) (Nat.le_of_ble_eq_true rfl) dX6_readMember_139 (fun r139 x139 hp139 => ?_)
            obtain ⟨rfl, hf139, hd139⟩ := hp139
            refine SM_readView C (by omega) dX6_readMember_142 ?_
            have hdC : Rm (mA x139 25 (upd (x139.2 25) j (less1 (dgt c n (p + 1 + 1) 0 9)))) s n c (p + 1 + 1 + adv (dgt c n (p + 1 + 1) 0 9)) := (hd139).arr (by decide)
            have hgC : FN 20 21 23 26 x (mA x139 25 (upd (x139.2 25) j (less1 (dgt c n (p + 1 + 1) 0 9)))) := (hgB.tr hf139.g).tr (FN.arr (by omega) (by omega))
            have hjC : ((mA x139 25 (upd (x139.2 25) j (less1 (dgt c n (p + 1 + 1) 0 9))))).1 20 = nI j := (hf139.2 _ (by omega)).trans hjB
            have haC : ((mA x139 25 (upd (x139.2 25) j (less1 (dgt c n (p + 1 + 1) 0 9))))).2 25 = upd (x.2 25) j (less1 (dgt c n (p + 1 + 1) 0 9)) := mA_eq.trans (by rw [hf139.1, haO5])
            have haA4 : ((mA x139 25 (upd (x139.2 25) j (less1 (dgt c n (p + 1 + 1) 0 9))))).2 23 = upd (x.2 23) j (less1 (knd c n p)) := (mA_ne (by omega)).trans (by rw [hf139.1]; exact haA3)
            have haB2 : ((mA x139 25 (upd (x139.2 25) j (less1 (dgt c n (p + 1 + 1) 0 9))))).2 24 = upd (x.2 24) j (less1 (dgt c n (p + 1) 0 (P - 1))) := (mA_ne (by omega)).trans (by rw [hf139.1]; exact haB)
            generalize mA x139 25 (upd (x139.2 25) j (less1 (dgt c n (p + 1 + 1) 0 9))) = yC at hdC hgC hjC haC haA4 haB2 ⊢
            refine J_aload_n C dX6_readMember_143 rfl rfl ?_
            refine J_dup C dX6_readMember_144 rfl ?_
            refine G6_readMembers C wd_9_15 dX6_readMember_145 ?_
            rw [show yC.1 20 = nI j from hjC]
            refine J_iconst C (v := nI 1) dX6_readMember_148 (by decide) ?_
            refine J_iadd C (v := nI (j + 1)) dX6_readMember_149 (nI_add _ _) ?_
            refine P6_readMembers C wd_9_15 dX6_readMember_150 ?_
            have hdD : Rm (mI yC 20 (nI (j + 1))) s n c (p + 1 + 1 + adv (dgt c n (p + 1 + 1) 0 9)) := hdC.int (by decide)
            have hgD : FN 20 21 23 26 x (mI yC 20 (nI (j + 1))) := hgC.tr (FN.int (by omega) (by omega))
            have hjD : ((mI yC 20 (nI (j + 1)))).1 20 = nI (j + 1) := mI_eq
            have haD : ((mI yC 20 (nI (j + 1)))).2 25 = upd (x.2 25) j (less1 (dgt c n (p + 1 + 1) 0 9)) := haC
            have haA5 : ((mI yC 20 (nI (j + 1)))).2 23 = upd (x.2 23) j (less1 (knd c n p)) := haA4
            have haB3 : ((mI yC 20 (nI (j + 1)))).2 24 = upd (x.2 24) j (less1 (dgt c n (p + 1) 0 (P - 1))) := haB2
            generalize mI yC 20 (nI (j + 1)) = yD at hdD hgD hjD haD haA5 haB3 ⊢
            refine J_aload_n C dX6_readMember_153 rfl rfl ?_
            refine G6_readView C wd_4_6 dX6_readMember_154 ?_
            refine J_aload_n C dX6_readMember_157 rfl rfl ?_
            refine G6_readMembers C wd_9_15 dX6_readMember_158 ?_
            rw [show yD.1 20 = nI (j + 1) from hjD]
            refine J_iconst C (v := nI 1) dX6_readMember_161 (by decide) ?_
            refine J_isub C (v := nI j) dX6_readMember_162 (pk_sub (a := j + 1) (b := 1) (by omega)) ?_
            refine LM_readView C (v := less1 (dgt c n (p + 1 + 1) 0 9)) (by omega) ((congrFun haD j).trans upd_eq) dX6_readMember_163 ?_
            refine J_bipush C (v := (-9)) dX6_readMember_164 (by decide) ?_
            refine J_icmp_eq C (tgt := 173) dX6_readMember_166 (by decide) (fun c166 => ?_) (fun c166 => ?_)
            · skip
              have z3 : dgt c n (p + 1 + 1) 0 9 = 0 := less1_eq c166 (by have : dgt c n (p + 1 + 1) 0 9 ≤ 10 := dgt_le; omega)
              refine J_iconst C (v := nI 0) dX6_readMember_173 (by decide) ?_
              exact E (b := false) dX6_readMember_174 (⟨hgD, Or.inr (Or.inr (Or.inl ⟨rfl, z1, z2, z3, by rw [adv_z z3] at hdD; exact hdD⟩))⟩)
            · skip
              have z3 : dgt c n (p + 1 + 1) 0 9 ≠ 0 := fun e => c166 (by rw [e]; rfl)
              rw [adv1 z3] at hdD
              refine J_iconst C (v := nI 1) dX6_readMember_169 (by decide) ?_
              refine J_goto (tgt := 174) C dX6_readMember_170 (by decide) ?_
              exact E (b := true) dX6_readMember_174 (⟨hgD, Or.inr (Or.inr (Or.inr ⟨rfl, z1, z2, z3, hdD, hjD, by rw [haA5, less1_n z1], by rw [haB3, less1_n z2], by rw [haD, less1_n z3]⟩))⟩)
          · skip
            have z2 : dgt c n (p + 1) 0 (P - 1) = 0 := less1_eq c121 (by have : dgt c n (p + 1) 0 (P - 1) ≤ P - 1 + 1 := dgt_le; omega)
            refine J_iconst C (v := nI 0) dX6_readMember_124 (by decide) ?_
            exact E (b := false) dX6_readMember_125 (⟨hgB, Or.inr (Or.inl ⟨rfl, z1, z2, by rw [adv_z z2] at hdB; exact hdB⟩)⟩)
        · skip
          have z1 : knd c n p = 0 := less1_eq c74 (by have : knd c n p ≤ 3 := knd_le; omega)
          refine J_iconst C (v := nI 0) dX6_readMember_77 (by decide) ?_
          exact E (b := false) dX6_readMember_78 (⟨hgA, Or.inl ⟨rfl, z1, hdA⟩⟩)
    · skip
      have hz := knd_m1 (c := c) (n := n) (p := p) (by omega) c33
      refine J_iconst C (v := less1 (knd c n p)) dX6_readMember_36 (by rw [hz]; decide) ?_
      refine J_goto (tgt := 62) C dX6_readMember_37 (by decide) ?_
      refine SM_readKind C (by omega) dX6_readMember_62 ?_
      have hdA : Rm (mA x 23 (upd (x.2 23) j (less1 (knd c n p)))) s n c (p) := (hd).arr (by decide)
      have hgA : FN 20 21 23 26 x (mA x 23 (upd (x.2 23) j (less1 (knd c n p)))) := (FN.rf (a := 20) (b := 21) (c := 23) (d := 26) (x := x)).tr (FN.arr (by omega) (by omega))
      have hjA : ((mA x 23 (upd (x.2 23) j (less1 (knd c n p))))).1 20 = nI j := hpj
      have hPA : ((mA x 23 (upd (x.2 23) j (less1 (knd c n p))))).1 19 = nI P := hP0
      have haA : ((mA x 23 (upd (x.2 23) j (less1 (knd c n p))))).2 23 = upd (x.2 23) j (less1 (knd c n p)) := mA_eq
      have haO : ((mA x 23 (upd (x.2 23) j (less1 (knd c n p))))).2 24 = x.2 24 := (mA_ne (by omega))
      have haO2 : ((mA x 23 (upd (x.2 23) j (less1 (knd c n p))))).2 25 = x.2 25 := (mA_ne (by omega))
      generalize mA x 23 (upd (x.2 23) j (less1 (knd c n p))) = yA at hdA hgA hjA hPA haA haO haO2 ⊢
      refine J_aload_n C dX6_readMember_63 rfl rfl ?_
      refine G6_readKind C wd_4_4 dX6_readMember_64 ?_
      refine J_aload_n C dX6_readMember_67 rfl rfl ?_
      refine G6_readMembers C wd_9_15 dX6_readMember_68 ?_
      rw [show yA.1 20 = nI j from hjA]
      refine LM_readKind C (v := less1 (knd c n p)) (by omega) ((congrFun haA j).trans upd_eq) dX6_readMember_71 ?_
      refine J_bipush C (v := (-9)) dX6_readMember_72 (by decide) ?_
      refine J_icmp_ne C (tgt := 79) dX6_readMember_74 (by decide) (fun c74 => ?_) (fun c74 => ?_)
      · skip
        have z1 : knd c n p ≠ 0 := fun e => c74 (by rw [e]; rfl)
        have hpn := (knd_in z1).1
        refine J_aload_n C dX6_readMember_79 rfl rfl ?_
        refine J_dup C dX6_readMember_80 rfl ?_
        refine G6_at C wd_8_15 dX6_readMember_81 ?_
        rw [show yA.1 15 = nI (s + p) from hdA.2.1]
        refine J_iconst C (v := nI 1) dX6_readMember_84 (by decide) ?_
        refine J_iadd C (v := nI ((s + p) + 1)) dX6_readMember_85 (nI_add _ _) ?_
        refine P6_at C wd_8_15 dX6_readMember_86 ?_
        have hdA2 : Rm (mI yA 15 (nI ((s + p) + 1))) s n c (p + 1) := hdA.at (by omega)
        have hgA2 : FN 20 21 23 26 x (mI yA 15 (nI ((s + p) + 1))) := hgA.tr F15.int.g
        have hjA2 : ((mI yA 15 (nI ((s + p) + 1)))).1 20 = nI j := hjA
        have hPA2 : ((mI yA 15 (nI ((s + p) + 1)))).1 19 = nI P := hPA
        have haA2 : ((mI yA 15 (nI ((s + p) + 1)))).2 23 = upd (x.2 23) j (less1 (knd c n p)) := haA
        have haO3 : ((mI yA 15 (nI ((s + p) + 1)))).2 24 = x.2 24 := haO
        have haO4 : ((mI yA 15 (nI ((s + p) + 1)))).2 25 = x.2 25 := haO2
        generalize mI yA 15 (nI ((s + p) + 1)) = yA2 at hdA2 hgA2 hjA2 hPA2 haA2 haO3 haO4 ⊢
        refine J_aload_n C dX6_readMember_89 rfl rfl ?_
        refine G6_readPoolOf C wd_4_5 dX6_readMember_90 ?_
        refine J_aload_n C dX6_readMember_93 rfl rfl ?_
        refine G6_readMembers C wd_9_15 dX6_readMember_94 ?_
        rw [show yA2.1 20 = nI j from hjA2]
        refine J_aload_n C dX6_readMember_97 rfl rfl ?_
        refine J_iload_n C dX6_readMember_98 rfl rfl ?_
        refine J_iconst C (v := nI 0) dX6_readMember_99 (by decide) ?_
        refine J_aload_n C dX6_readMember_100 rfl rfl ?_
        refine G6_readPools C wd_9_14 dX6_readMember_101 ?_
        rw [show yA2.1 19 = nI P from hPA2]
        refine J_iconst C (v := nI 1) dX6_readMember_104 (by decide) ?_
        refine J_isub C (v := nI (P - 1)) dX6_readMember_105 (pk_sub (a := P) (b := 1) (by omega)) ?_
        refine J_callVi C (q0 := 0) (ci := 6) (N := 33) (As := [.int (nI (s + n)), .int (nI 0), .int (nI (P - 1))]) (c_X6_digit l Z _ hin hdA2 _ _ (by omega) (by omega)) cw_RX6_135 wd_10_0 wd_10_1 rfl rfl rfl rfl (Nat.le_of_ble_eq_true rfl) rfl rfl (Nat.le_of_ble_eq_true rfl) (Nat.le_of_ble_eq_true rfl) dX6_readMember_106 (fun r106 x106 hp106 => ?_)
        obtain ⟨rfl, hf106, hd106⟩ := hp106
        refine SM_readPoolOf C (by omega) dX6_readMember_109 ?_
        have hdB : Rm (mA x106 24 (upd (x106.2 24) j (less1 (dgt c n (p + 1) 0 (P - 1))))) s n c (p + 1 + adv (dgt c n (p + 1) 0 (P - 1))) := (hd106).arr (by decide)
        have hgB : FN 20 21 23 26 x (mA x106 24 (upd (x106.2 24) j (less1 (dgt c n (p + 1) 0 (P - 1))))) := (hgA2.tr hf106.g).tr (FN.arr (by omega) (by omega))
        have hjB : ((mA x106 24 (upd (x106.2 24) j (less1 (dgt c n (p + 1) 0 (P - 1)))))).1 20 = nI j := (hf106.2 _ (by omega)).trans hjA2
        have haB : ((mA x106 24 (upd (x106.2 24) j (less1 (dgt c n (p + 1) 0 (P - 1)))))).2 24 = upd (x.2 24) j (less1 (dgt c n (p + 1) 0 (P - 1))) := mA_eq.trans (by rw [hf106.1, haO3])
        have haA3 : ((mA x106 24 (upd (x106.2 24) j (less1 (dgt c n (p + 1) 0 (P - 1)))))).2 23 = upd (x.2 23) j (less1 (knd c n p)) := (mA_ne (by omega)).trans (by rw [hf106.1]; exact haA2)
        have haO5 : ((mA x106 24 (upd (x106.2 24) j (less1 (dgt c n (p + 1) 0 (P - 1)))))).2 25 = x.2 25 := (mA_ne (by omega)).trans (by rw [hf106.1]; exact haO4)
        generalize mA x106 24 (upd (x106.2 24) j (less1 (dgt c n (p + 1) 0 (P - 1)))) = yB at hdB hgB hjB haB haA3 haO5 ⊢
        refine J_aload_n C dX6_readMember_110 rfl rfl ?_
        refine G6_readPoolOf C wd_4_5 dX6_readMember_111 ?_
        refine J_aload_n C dX6_readMember_114 rfl rfl ?_
        refine G6_readMembers C wd_9_15 dX6_readMember_115 ?_
        rw [show yB.1 20 = nI j from hjB]
        refine LM_readPoolOf C (v := less1 (dgt c n (p + 1) 0 (P - 1))) (by omega) ((congrFun haB j).trans upd_eq) dX6_readMember_118 ?_
        refine J_bipush C (v := (-9)) dX6_readMember_119 (by decide) ?_
        refine J_icmp_ne C (tgt := 126) dX6_readMember_121 (by decide) (fun c121 => ?_) (fun c121 => ?_)
        · skip
          have z2 : dgt c n (p + 1) 0 (P - 1) ≠ 0 := fun e => c121 (by rw [e]; rfl)
          rw [adv1 z2] at hdB
          refine J_aload_n C dX6_readMember_126 rfl rfl ?_
          refine G6_readView C wd_4_6 dX6_readMember_127 ?_
          refine J_aload_n C dX6_readMember_130 rfl rfl ?_
          refine G6_readMembers C wd_9_15 dX6_readMember_131 ?_
          rw [show yB.1 20 = nI j from hjB]
          refine J_aload_n C dX6_readMember_134 rfl rfl ?_
          refine J_iload_n C dX6_readMember_135 rfl rfl ?_
          refine J_iconst C (v := nI 0) dX6_readMember_136 (by decide) ?_
          refine J_bipush C (v := nI 9) dX6_readMember_137 (by decide) ?_
          refine J_callVi C (q0 := 0) (ci := 6) (N := 33) (As := [.int (nI (s + n)), .int (nI 0), .int (nI 9)]) (c_X6_digit l Z _ hin hdB _ _ (by omega) (by omega)) cw_RX6_135 wd_10_0 wd_10_1 rfl rfl rfl rfl (Nat.le_of_ble_eq_true rfl) rfl rfl (Nat.le_of_ble_eq_true rfl) (Nat.le_of_ble_eq_true rfl) dX6_readMember_139 (fun r139 x139 hp139 => ?_)
          obtain ⟨rfl, hf139, hd139⟩ := hp139
          refine SM_readView C (by omega) dX6_readMember_142 ?_
          have hdC : Rm (mA x139 25 (upd (x139.2 25) j (less1 (dgt c n (p + 1 + 1) 0 9)))) s n c (p + 1 + 1 + adv (dgt c n (p + 1 + 1) 0 9)) := (hd139).arr (by decide)
          have hgC : FN 20 21 23 26 x (mA x139 25 (upd (x139.2 25) j (less1 (dgt c n (p + 1 + 1) 0 9)))) := (hgB.tr hf139.g).tr (FN.arr (by omega) (by omega))
          have hjC : ((mA x139 25 (upd (x139.2 25) j (less1 (dgt c n (p + 1 + 1) 0 9))))).1 20 = nI j := (hf139.2 _ (by omega)).trans hjB
          have haC : ((mA x139 25 (upd (x139.2 25) j (less1 (dgt c n (p + 1 + 1) 0 9))))).2 25 = upd (x.2 25) j (less1 (dgt c n (p + 1 + 1) 0 9)) := mA_eq.trans (by rw [hf139.1, haO5])
          have haA4 : ((mA x139 25 (upd (x139.2 25) j (less1 (dgt c n (p + 1 + 1) 0 9))))).2 23 = upd (x.2 23) j (less1 (knd c n p)) := (mA_ne (by omega)).trans (by rw [hf139.1]; exact haA3)
          have haB2 : ((mA x139 25 (upd (x139.2 25) j (less1 (dgt c n (p + 1 + 1) 0 9))))).2 24 = upd (x.2 24) j (less1 (dgt c n (p + 1) 0 (P - 1))) := (mA_ne (by omega)).trans (by rw [hf139.1]; exact haB)
          generalize mA x139 25 (upd (x139.2 25) j (less1 (dgt c n (p + 1 + 1) 0 9))) = yC at hdC hgC hjC haC haA4 haB2 ⊢
          refine J_aload_n C dX6_readMember_143 rfl rfl ?_
          refine J_dup C dX6_readMember_144 rfl ?_
          refine G6_readMembers C wd_9_15 dX6_readMember_145 ?_
          rw [show yC.1 20 = nI j from hjC]
          refine J_iconst C (v := nI 1) dX6_readMember_148 (by decide) ?_
          refine J_iadd C (v := nI (j + 1)) dX6_readMember_149 (nI_add _ _) ?_
          refine P6_readMembers C wd_9_15 dX6_readMember_150 ?_
          have hdD : Rm (mI yC 20 (nI (j + 1))) s n c (p + 1 + 1 + adv (dgt c n (p + 1 + 1) 0 9)) := hdC.int (by decide)
          have hgD : FN 20 21 23 26 x (mI yC 20 (nI (j + 1))) := hgC.tr (FN.int (by omega) (by omega))
          have hjD : ((mI yC 20 (nI (j + 1)))).1 20 = nI (j + 1) := mI_eq
          have haD : ((mI yC 20 (nI (j + 1)))).2 25 = upd (x.2 25) j (less1 (dgt c n (p + 1 + 1) 0 9)) := haC
          have haA5 : ((mI yC 20 (nI (j + 1)))).2 23 = upd (x.2 23) j (less1 (knd c n p)) := haA4
          have haB3 : ((mI yC 20 (nI (j + 1)))).2 24 = upd (x.2 24) j (less1 (dgt c n (p + 1) 0 (P - 1))) := haB2
          generalize mI yC 20 (nI (j + 1)) = yD at hdD hgD hjD haD haA5 haB3 ⊢
          refine J_aload_n C dX6_readMember_153 rfl rfl ?_
          refine G6_readView C wd_4_6 dX6_readMember_154 ?_
          refine J_aload_n C dX6_readMember_157 rfl rfl ?_
          refine G6_readMembers C wd_9_15 dX6_readMember_158 ?_
          rw [show yD.1 20 = nI (j + 1) from hjD]
          refine J_iconst C (v := nI 1) dX6_readMember_161 (by decide) ?_
          refine J_isub C (v := nI j) dX6_readMember_162 (pk_sub (a := j + 1) (b := 1) (by omega)) ?_
          refine LM_readView C (v := less1 (dgt c n (p + 1 + 1) 0 9)) (by omega) ((congrFun haD j).trans upd_eq) dX6_readMember_163 ?_
          refine J_bipush C (v := (-9)) dX6_readMember_164 (by decide) ?_
          refine J_icmp_eq C (tgt := 173) dX6_readMember_166 (by decide) (fun c166 => ?_) (fun c166 => ?_)
          · skip
            have z3 : dgt c n (p + 1 + 1) 0 9 = 0 := less1_eq c166 (by have : dgt c n (p + 1 + 1) 0 9 ≤ 10 := dgt_le; omega)
            refine J_iconst C (v := nI 0) dX6_readMember_173 (by decide) ?_
            exact E (b := false) dX6_readMember_174 (⟨hgD, Or.inr (Or.inr (Or.inl ⟨rfl, z1, z2, z3, by rw [adv_z z3] at hdD; exact hdD⟩))⟩)
          · skip
            have z3 : dgt c n (p + 1 + 1) 0 9 ≠ 0 := fun e => c166 (by rw [e]; rfl)
            rw [adv1 z3] at hdD
            refine J_iconst C (v := nI 1) dX6_readMember_169 (by decide) ?_
            refine J_goto (tgt := 174) C dX6_readMember_170 (by decide) ?_
            exact E (b := true) dX6_readMember_174 (⟨hgD, Or.inr (Or.inr (Or.inr ⟨rfl, z1, z2, z3, hdD, hjD, by rw [haA5, less1_n z1], by rw [haB3, less1_n z2], by rw [haD, less1_n z3]⟩))⟩)
        · skip
          have z2 : dgt c n (p + 1) 0 (P - 1) = 0 := less1_eq c121 (by have : dgt c n (p + 1) 0 (P - 1) ≤ P - 1 + 1 := dgt_le; omega)
          refine J_iconst C (v := nI 0) dX6_readMember_124 (by decide) ?_
          exact E (b := false) dX6_readMember_125 (⟨hgB, Or.inr (Or.inl ⟨rfl, z1, z2, by rw [adv_z z2] at hdB; exact hdB⟩)⟩)
      · skip
        have z1 : knd c n p = 0 := less1_eq c74 (by have : knd c n p ≤ 3 := knd_le; omega)
        refine J_iconst C (v := nI 0) dX6_readMember_77 (by decide) ?_
        exact E (b := false) dX6_readMember_78 (⟨hgA, Or.inl ⟨rfl, z1, hdA⟩⟩)
def rm_X6_readShore : Room := ({ frames := 3, cells := 0, slots := 0, locals := 67 })
set_option maxRecDepth 20000 in
set_option maxHeartbeats 8000000 in
theorem c_X6_readShore (l : Launch) (Z : EC) (x : Mt) {s n : Nat} {c : Nat → Int32} (hin : s + n ≤ 240) (hd : Rm x s n c 0)  : MIz l Z (wM Z) yX6_readShore cX6_readShore 2 rm_X6_readShore [.ref (Z.2.1 0), .int (nI (s + n))] x (fun b x1 => FN 16 21 21 26 x x1 ∧ ((b = false ∧ rdF c n ≠ 0 ∧ Rm x1 s n c (rdF c n - 1)) ∨ (b = true ∧ rdF c n = 0 ∧ RdM x1 (rdS c n)))) := by
  refine MIz_of (own := RX6) (L0 := [some (.ref (Z.2.1 0)), some (.int (nI (s + n)))]) (by decide) rfl (Nat.le_of_ble_eq_true rfl) ⟨rfl, rfl, trivial⟩ ?_
  intro Γ C E
  have ct119 : ∀ (j : Nat) (y : Mt), (j ≤ 6) → (hdF c n = 0) → (nP c n = j) → (plF c n = (if j < 2 then 4 + 3 * j + 1 else 0)) → (FN 16 21 21 26 x y) → (Rm y s n c (4 + 3 * j)) → (y.1 19 = nI j) → (y.1 20 = nI 0) → (y.1 16 = nI (dgt c n (1) 1 3 - 1)) → (y.1 17 = nI (dgt c n (2) 0 9 - 1)) → (y.1 18 = nI (dgt c n (3) 0 9 - 1)) → (∀ q, q < j → y.2 21 q = nI (dgt c n (4 + 3 * q + 1) 1 9 - 1)) → (∀ q, q < j → y.2 22 q = nI (dgt c n (4 + 3 * q + 1 + 1) 1 9 - 1)) →  J Γ y 119 [some (.ref (Z.2.1 0)), some (.int (nI (s + n)))] [] := by
    intro j y hj hF0 hP hG hyg hyd hyp hyz hs0 hs1 hs2 hya hyb
    refine J_aload_n C dX6_readShore_119 rfl rfl ?_
    refine G6_readPools C wd_9_14 dX6_readShore_120 ?_
    rw [show y.1 19 = nI j from hyp]
    refine J_iconst C (v := nI 2) dX6_readShore_123 (by decide) ?_
    refine J_icmp_ge_n C (tgt := 129) dX6_readShore_124 (by decide) (by omega) (by omega) (fun c124 => ?_) (fun c124 => ?_)
    · skip
      rw [if_neg (show ¬ j < 2 by omega)] at hG
      have hpl0 : plF c n = 0 := hG
      have hP6 : nP c n ≤ 6 := fst_le _ 6
      have lp129 : ∀ (f : Nat) (j : Nat) (z : Mt), (j ≤ 6) → (¬ fst (badM c n (nP c n)) j < j) → (FN 16 21 21 26 x z) → (Rm z s n c (4 + 3 * nP c n + 4 * j)) → (z.1 20 = nI j) → (z.1 19 = nI (nP c n)) → (z.1 16 = nI (dgt c n (1) 1 3 - 1)) → (z.1 17 = nI (dgt c n (2) 0 9 - 1)) → (z.1 18 = nI (dgt c n (3) 0 9 - 1)) → (∀ q, q < nP c n → z.2 21 q = nI (dgt c n (4 + 3 * q + 1) 1 9 - 1)) → (∀ q, q < nP c n → z.2 22 q = nI (dgt c n (4 + 3 * q + 1 + 1) 1 9 - 1)) → (∀ q, q < j → z.2 23 q = nI (knd c n (4 + 3 * nP c n + 4 * q + 1) - 1)) → (∀ q, q < j → z.2 24 q = nI (dgt c n (4 + 3 * nP c n + 4 * q + 1 + 1) 0 (nP c n - 1) - 1)) → (∀ q, q < j → z.2 25 q = nI (dgt c n (4 + 3 * nP c n + 4 * q + 1 + 1 + 1) 0 9 - 1)) → (7 - j < f) →  J Γ z 129 [some (.ref (Z.2.1 0)), some (.int (nI (s + n)))] [] := by
        intro f
        induction f with
        | zero =>
          intro j z hj2 hv2 hzg hzd hzp hzP ht0 ht1 ht2 hza hzb hz0 hz1 hz2 hf2
          omega
        | succ f ih129 =>
          intro j z hj2 hv2 hzg hzd hzp hzP ht0 ht1 ht2 hza hzb hz0 hz1 hz2 hf2
          have hzl := hzd.1
          refine J_aload_n C dX6_readShore_129 rfl rfl ?_
          refine G6_readMembers C wd_9_15 dX6_readShore_130 ?_
          rw [show z.1 20 = nI j from hzp]
          refine J_if_eq_n C (tgt := 153) dX6_readShore_133 (by decide) (by omega) (fun c133 => ?_) (fun c133 => ?_)
          · skip
            refine J_aload_n C dX6_readShore_153 rfl rfl ?_
            refine J_iload_n C dX6_readShore_154 rfl rfl ?_
            refine J_bipush C (v := nI 59) dX6_readShore_155 (by decide) ?_
            refine J_callVz C (q0 := 0) (ci := 6) (N := 33) (As := [.int (nI (s + n)), .int (nI 59)]) (c_X6_isSign l Z _ hin hzd _ (by omega)) cw_RX6_131 wd_9_20 wd_9_21 rfl rfl rfl rfl (Nat.le_of_ble_eq_true rfl) rfl rfl (Nat.le_of_ble_eq_true rfl) (Nat.le_of_ble_eq_true rfl) dX6_readShore_157 (fun b157 x157 hp157 => ?_)
            rcases hp157 with ⟨rfl, hs157, rfl⟩ | ⟨rfl, hs157, hf157, hd157⟩
            · skip
              have hM := nM_hit hv2 (by omega) (badM_s hs157)
              have hmb : mbF c n (nP c n) = (if j = 0 then 4 + 3 * nP c n + 1 else 0) := by unfold mbF; rw [hM]; exact mbG_s (fun _ => hs157)
              refine J_if_eq_b C (tgt := 171) dX6_readShore_160 (by decide) (fun c160 => ?_) (fun c160 => absurd c160 (by decide))
              refine J_iconst C (v := nI 0) dX6_readShore_171 (by decide) ?_
              exact E (b := false) dX6_readShore_172 (⟨hzg, Or.inl ⟨rfl, by rw [rdF_3 hF0 hpl0 (by rw [hmb, if_pos (by omega)]; omega), hmb, if_pos (show j = 0 by omega)]; first | assumption | omega, by rw [rdF_3 hF0 hpl0 (by rw [hmb, if_pos (by omega)]; omega), hmb, if_pos (show j = 0 by omega)]; exact (by rw [show 4 + 3 * nP c n + 1 - 1 = 4 + 3 * nP c n + 4 * j by omega]; exact hzd)⟩⟩)
            · skip
              refine J_if_eq_b C (tgt := 171) dX6_readShore_160 (by decide) (fun c160 => absurd c160 (by decide)) (fun c160 => ?_)
              refine J_aload_n C dX6_readShore_163 rfl rfl ?_
              refine J_iload_n C dX6_readShore_164 rfl rfl ?_
              refine J_callVz C (q0 := 0) (ci := 6) (N := 33) (As := [.int (nI (s + n))]) (c_X6_readMember l Z _ hin hd157 (show j < 6 by omega) (nP_2 hpl0) (fst_le _ 6) ((hf157.2 _ (by decide)).trans hzp) ((hf157.2 _ (by decide)).trans hzP)) cw_RX6_142 wd_10_8 wd_10_9 rfl rfl rfl rfl (Nat.le_of_ble_eq_true rfl) rfl rfl (Nat.le_of_ble_eq_true rfl) (Nat.le_of_ble_eq_true rfl) dX6_readShore_165 (fun b165 x165 hp165 => ?_)
              obtain ⟨hg165, hp165⟩ := hp165
              rcases hp165 with ⟨rfl, hz165, hd165⟩ | ⟨rfl, hz165, hy165, hd165⟩ | ⟨rfl, hz165, hy165, hx165, hd165⟩ | ⟨rfl, hz165, hy165, hx165, hd165, hj165, ha165, hb165, hc165⟩
              · skip
                have hM := nM_hit hv2 (by omega) (badM_1 hz165)
                have hmb : mbF c n (nP c n) = 4 + 3 * nP c n + 4 * j + 1 + 1 := by unfold mbF; rw [hM]; exact mbG_1 (by omega) hs157 hz165
                refine J_if_ne_b C (tgt := 129) dX6_readShore_168 (by decide) (fun c168 => absurd c168 (by decide)) (fun c168 => ?_)
                refine J_iconst C (v := nI 0) dX6_readShore_171 (by decide) ?_
                exact E (b := false) dX6_readShore_172 (⟨(hzg.tr (hf157.g.tr (hg165.w (fun u hu => by omega) (fun u hu => by omega)))), Or.inl ⟨rfl, by rw [rdF_3 hF0 hpl0 (by rw [hmb]; omega), hmb]; first | assumption | omega, by rw [rdF_3 hF0 hpl0 (by rw [hmb]; omega), hmb]; exact hd165⟩⟩)
              · skip
                have hM := nM_hit hv2 (by omega) (badM_2 hy165)
                have hmb : mbF c n (nP c n) = 4 + 3 * nP c n + 4 * j + 1 + 1 + 1 := by unfold mbF; rw [hM]; exact mbG_2 (by omega) hs157 hz165 hy165
                refine J_if_ne_b C (tgt := 129) dX6_readShore_168 (by decide) (fun c168 => absurd c168 (by decide)) (fun c168 => ?_)
                refine J_iconst C (v := nI 0) dX6_readShore_171 (by decide) ?_
                exact E (b := false) dX6_readShore_172 (⟨(hzg.tr (hf157.g.tr (hg165.w (fun u hu => by omega) (fun u hu => by omega)))), Or.inl ⟨rfl, by rw [rdF_3 hF0 hpl0 (by rw [hmb]; omega), hmb]; first | assumption | omega, by rw [rdF_3 hF0 hpl0 (by rw [hmb]; omega), hmb]; exact hd165⟩⟩)
              · skip
                have hM := nM_hit hv2 (by omega) (badM_3 hx165)
                have hmb : mbF c n (nP c n) = 4 + 3 * nP c n + 4 * j + 1 + 1 + 1 + 1 := by unfold mbF; rw [hM]; exact mbG_3 (by omega) hs157 hz165 hy165
                refine J_if_ne_b C (tgt := 129) dX6_readShore_168 (by decide) (fun c168 => absurd c168 (by decide)) (fun c168 => ?_)
                refine J_iconst C (v := nI 0) dX6_readShore_171 (by decide) ?_
                exact E (b := false) dX6_readShore_172 (⟨(hzg.tr (hf157.g.tr (hg165.w (fun u hu => by omega) (fun u hu => by omega)))), Or.inl ⟨rfl, by rw [rdF_3 hF0 hpl0 (by rw [hmb]; omega), hmb]; first | assumption | omega, by rw [rdF_3 hF0 hpl0 (by rw [hmb]; omega), hmb]; exact hd165⟩⟩)
              · skip
                refine J_if_ne_b C (tgt := 129) dX6_readShore_168 (by decide) (fun c168 => ?_) (fun c168 => absurd c168 (by decide))
                refine J_drop ?_ (ih129 (j + 1) x165 (by omega) (fst_go hv2 (badM_n hs157 hz165 hy165 hx165)) (hzg.tr (hf157.g.tr (hg165.w (fun u hu => by omega) (fun u hu => by omega)))) hd165 hj165 ((hg165.1 _ (by decide) (by omega)).trans ((hf157.2 _ (by decide)).trans hzP)) ((hg165.1 _ (by decide) (by omega)).trans ((hf157.2 _ (by decide)).trans ht0)) ((hg165.1 _ (by decide) (by omega)).trans ((hf157.2 _ (by decide)).trans ht1)) ((hg165.1 _ (by decide) (by omega)).trans ((hf157.2 _ (by decide)).trans ht2)) (fun q hq => (congrFun (hg165.2 21 (by omega)) q).trans ((by rw [hf157.1] : x157.2 21 q = z.2 21 q).trans (hza q hq))) (fun q hq => (congrFun (hg165.2 22 (by omega)) q).trans ((by rw [hf157.1] : x157.2 22 q = z.2 22 q).trans (hzb q hq))) (updN hz0 (ha165.trans (by rw [hf157.1])) rfl) (updN hz1 (hb165.trans (by rw [hf157.1])) rfl) (updN hz2 (hc165.trans (by rw [hf157.1])) rfl) (by omega))
                exact ⟨rfl, rfl, trivial⟩
          · skip
            refine J_aload_n C dX6_readShore_136 rfl rfl ?_
            refine G6_readMembers C wd_9_15 dX6_readShore_137 ?_
            rw [show z.1 20 = nI j from hzp]
            refine J_bipush C (v := nI 6) dX6_readShore_140 (by decide) ?_
            refine J_icmp_ge_n C (tgt := 173) dX6_readShore_142 (by decide) (by omega) (by omega) (fun c142 => ?_) (fun c142 => ?_)
            · skip
              have hM := nM_6 hv2 (show j = 6 by omega)
              have hmb : mbF c n (nP c n) = 0 := by unfold mbF; rw [hM, mbG_s (fun h => absurd h (by omega)), if_neg (by omega)]
              refine J_aload_n C dX6_readShore_173 rfl rfl ?_
              refine G6_at C wd_8_15 dX6_readShore_174 ?_
              rw [show z.1 15 = nI (s + (4 + 3 * nP c n + 4 * j)) from hzd.2.1]
              refine J_iload_n C dX6_readShore_177 rfl rfl ?_
              refine J_icmp_ne_n C (tgt := 185) dX6_readShore_178 (by decide) (by omega) (by omega) (fun c178 => ?_) (fun c178 => ?_)
              · skip
                refine J_iconst C (v := nI 0) dX6_readShore_185 (by decide) ?_
                exact E (b := false) dX6_readShore_186 (⟨hzg, Or.inl ⟨rfl, by rw [rdF_4 hF0 hpl0 hmb (by rw [hM]; omega), hM]; first | assumption | omega, by rw [rdF_4 hF0 hpl0 hmb (by rw [hM]; omega), hM]; exact hzd⟩⟩)
              · skip
                refine J_iconst C (v := nI 1) dX6_readShore_181 (by decide) ?_
                refine J_goto (tgt := 186) C dX6_readShore_182 (by decide) ?_
                exact E (b := true) dX6_readShore_186 (⟨hzg, Or.inr ⟨rfl, rdF_0 hF0 hpl0 hmb (by rw [hM]; omega), ht0, ht1, ht2, hzP, by show z.1 20 = nI (nM c n (nP c n)); rw [hM]; exact hzp, fun q hq => ⟨hza q hq, hzb q hq⟩, fun q hq => by have hq2 : q < nM c n (nP c n) := hq; rw [hM] at hq2; exact ⟨hz0 q hq2, hz1 q hq2, hz2 q hq2⟩⟩⟩)
            · skip
              refine J_aload_n C dX6_readShore_145 rfl rfl ?_
              refine G6_at C wd_8_15 dX6_readShore_146 ?_
              rw [show z.1 15 = nI (s + (4 + 3 * nP c n + 4 * j)) from hzd.2.1]
              refine J_iload_n C dX6_readShore_149 rfl rfl ?_
              refine J_icmp_ge_n C (tgt := 173) dX6_readShore_150 (by decide) (by omega) (by omega) (fun c150 => ?_) (fun c150 => ?_)
              · skip
                have hsn : sgn c n (4 + 3 * nP c n + 4 * j) 59 = false := decide_eq_false (fun h => absurd h.1 (by omega))
                have hM := nM_hit hv2 (by omega) (badM_s hsn)
                have hmb : mbF c n (nP c n) = 0 := by unfold mbF; rw [hM, mbG_s (fun _ => hsn), if_neg (by omega)]
                refine J_aload_n C dX6_readShore_173 rfl rfl ?_
                refine G6_at C wd_8_15 dX6_readShore_174 ?_
                rw [show z.1 15 = nI (s + (4 + 3 * nP c n + 4 * j)) from hzd.2.1]
                refine J_iload_n C dX6_readShore_177 rfl rfl ?_
                refine J_icmp_ne_n C (tgt := 185) dX6_readShore_178 (by decide) (by omega) (by omega) (fun c178 => absurd (show s + (4 + 3 * nP c n + 4 * j) = s + n by omega) c178) (fun c178 => ?_)
                refine J_iconst C (v := nI 1) dX6_readShore_181 (by decide) ?_
                refine J_goto (tgt := 186) C dX6_readShore_182 (by decide) ?_
                exact E (b := true) dX6_readShore_186 (⟨hzg, Or.inr ⟨rfl, rdF_0 hF0 hpl0 hmb (by rw [hM]; omega), ht0, ht1, ht2, hzP, by show z.1 20 = nI (nM c n (nP c n)); rw [hM]; exact hzp, fun q hq => ⟨hza q hq, hzb q hq⟩, fun q hq => by have hq2 : q < nM c n (nP c n) := hq; rw [hM] at hq2; exact ⟨hz0 q hq2, hz1 q hq2, hz2 q hq2⟩⟩⟩)
              · skip
                refine J_aload_n C dX6_readShore_153 rfl rfl ?_
                refine J_iload_n C dX6_readShore_154 rfl rfl ?_
                refine J_bipush C (v := nI 59) dX6_readShore_155 (by decide) ?_
                refine J_callVz C (q0 := 0) (ci := 6) (N := 33) (As := [.int (nI (s + n)), .int (nI 59)]) (c_X6_isSign l Z _ hin hzd _ (by omega)) cw_RX6_131 wd_9_20 wd_9_21 rfl rfl rfl rfl (Nat.le_of_ble_eq_true rfl) rfl rfl (Nat.le_of_ble_eq_true rfl) (Nat.le_of_ble_eq_true rfl) dX6_readShore_157 (fun b157 x157 hp157 => ?_)
                rcases hp157 with ⟨rfl, hs157, rfl⟩ | ⟨rfl, hs157, hf157, hd157⟩
                · skip
                  have hM := nM_hit hv2 (by omega) (badM_s hs157)
                  have hmb : mbF c n (nP c n) = (if j = 0 then 4 + 3 * nP c n + 1 else 0) := by unfold mbF; rw [hM]; exact mbG_s (fun _ => hs157)
                  refine J_if_eq_b C (tgt := 171) dX6_readShore_160 (by decide) (fun c160 => ?_) (fun c160 => absurd c160 (by decide))
                  refine J_iconst C (v := nI 0) dX6_readShore_171 (by decide) ?_
                  exact E (b := false) dX6_readShore_172 (⟨hzg, Or.inl ⟨rfl, by rw [rdF_4 hF0 hpl0 (by rw [hmb, if_neg (by omega)]) (by rw [hM]; omega), hM]; first | assumption | omega, by rw [rdF_4 hF0 hpl0 (by rw [hmb, if_neg (by omega)]) (by rw [hM]; omega), hM]; exact hzd⟩⟩)
                · skip
                  refine J_if_eq_b C (tgt := 171) dX6_readShore_160 (by decide) (fun c160 => absurd c160 (by decide)) (fun c160 => ?_)
                  refine J_aload_n C dX6_readShore_163 rfl rfl ?_
                  refine J_iload_n C dX6_readShore_164 rfl rfl ?_
                  refine J_callVz C (q0 := 0) (ci := 6) (N := 33) (As := [.int (nI (s + n))]) (c_X6_readMember l Z _ hin hd157 (show j < 6 by omega) (nP_2 hpl0) (fst_le _ 6) ((hf157.2 _ (by decide)).trans hzp) ((hf157.2 _ (by decide)).trans hzP)) cw_RX6_142 wd_10_8 wd_10_9 rfl rfl rfl rfl (Nat.le_of_ble_eq_true rfl) rfl rfl (Nat.le_of_ble_eq_true rfl) (Nat.le_of_ble_eq_true rfl) dX6_readShore_165 (fun b165 x165 hp165 => ?_)
                  obtain ⟨hg165, hp165⟩ := hp165
                  rcases hp165 with ⟨rfl, hz165, hd165⟩ | ⟨rfl, hz165, hy165, hd165⟩ | ⟨rfl, hz165, hy165, hx165, hd165⟩ | ⟨rfl, hz165, hy165, hx165, hd165, hj165, ha165, hb165, hc165⟩
                  · skip
                    have hM := nM_hit hv2 (by omega) (badM_1 hz165)
                    have hmb : mbF c n (nP c n) = 4 + 3 * nP c n + 4 * j + 1 + 1 := by unfold mbF; rw [hM]; exact mbG_1 (by omega) hs157 hz165
                    refine J_if_ne_b C (tgt := 129) dX6_readShore_168 (by decide) (fun c168 => absurd c168 (by decide)) (fun c168 => ?_)
                    refine J_iconst C (v := nI 0) dX6_readShore_171 (by decide) ?_
                    exact E (b := false) dX6_readShore_172 (⟨(hzg.tr (hf157.g.tr (hg165.w (fun u hu => by omega) (fun u hu => by omega)))), Or.inl ⟨rfl, by rw [rdF_3 hF0 hpl0 (by rw [hmb]; omega), hmb]; first | assumption | omega, by rw [rdF_3 hF0 hpl0 (by rw [hmb]; omega), hmb]; exact hd165⟩⟩)
                  · skip
                    have hM := nM_hit hv2 (by omega) (badM_2 hy165)
                    have hmb : mbF c n (nP c n) = 4 + 3 * nP c n + 4 * j + 1 + 1 + 1 := by unfold mbF; rw [hM]; exact mbG_2 (by omega) hs157 hz165 hy165
                    refine J_if_ne_b C (tgt := 129) dX6_readShore_168 (by decide) (fun c168 => absurd c168 (by decide)) (fun c168 => ?_)
                    refine J_iconst C (v := nI 0) dX6_readShore_171 (by decide) ?_
                    exact E (b := false) dX6_readShore_172 (⟨(hzg.tr (hf157.g.tr (hg165.w (fun u hu => by omega) (fun u hu => by omega)))), Or.inl ⟨rfl, by rw [rdF_3 hF0 hpl0 (by rw [hmb]; omega), hmb]; first | assumption | omega, by rw [rdF_3 hF0 hpl0 (by rw [hmb]; omega), hmb]; exact hd165⟩⟩)
                  · skip
                    have hM := nM_hit hv2 (by omega) (badM_3 hx165)
                    have hmb : mbF c n (nP c n) = 4 + 3 * nP c n + 4 * j + 1 + 1 + 1 + 1 := by unfold mbF; rw [hM]; exact mbG_3 (by omega) hs157 hz165 hy165
                    refine J_if_ne_b C (tgt := 129) dX6_readShore_168 (by decide) (fun c168 => absurd c168 (by decide)) (fun c168 => ?_)
                    refine J_iconst C (v := nI 0) dX6_readShore_171 (by decide) ?_
                    exact E (b := false) dX6_readShore_172 (⟨(hzg.tr (hf157.g.tr (hg165.w (fun u hu => by omega) (fun u hu => by omega)))), Or.inl ⟨rfl, by rw [rdF_3 hF0 hpl0 (by rw [hmb]; omega), hmb]; first | assumption | omega, by rw [rdF_3 hF0 hpl0 (by rw [hmb]; omega), hmb]; exact hd165⟩⟩)
                  · skip
                    refine J_if_ne_b C (tgt := 129) dX6_readShore_168 (by decide) (fun c168 => ?_) (fun c168 => absurd c168 (by decide))
                    refine J_drop ?_ (ih129 (j + 1) x165 (by omega) (fst_go hv2 (badM_n hs157 hz165 hy165 hx165)) (hzg.tr (hf157.g.tr (hg165.w (fun u hu => by omega) (fun u hu => by omega)))) hd165 hj165 ((hg165.1 _ (by decide) (by omega)).trans ((hf157.2 _ (by decide)).trans hzP)) ((hg165.1 _ (by decide) (by omega)).trans ((hf157.2 _ (by decide)).trans ht0)) ((hg165.1 _ (by decide) (by omega)).trans ((hf157.2 _ (by decide)).trans ht1)) ((hg165.1 _ (by decide) (by omega)).trans ((hf157.2 _ (by decide)).trans ht2)) (fun q hq => (congrFun (hg165.2 21 (by omega)) q).trans ((by rw [hf157.1] : x157.2 21 q = z.2 21 q).trans (hza q hq))) (fun q hq => (congrFun (hg165.2 22 (by omega)) q).trans ((by rw [hf157.1] : x157.2 22 q = z.2 22 q).trans (hzb q hq))) (updN hz0 (ha165.trans (by rw [hf157.1])) rfl) (updN hz1 (hb165.trans (by rw [hf157.1])) rfl) (updN hz2 (hc165.trans (by rw [hf157.1])) rfl) (by omega))
                    exact ⟨rfl, rfl, trivial⟩
      refine J_drop ?_ (lp129 8 0 y (by omega) (Nat.not_lt_zero _) hyg (by rw [hP]; exact hyd) hyz (by rw [hP]; exact hyp) hs0 hs1 hs2 (by rw [hP]; exact hya) (by rw [hP]; exact hyb) (fun q hq => absurd hq (Nat.not_lt_zero q)) (fun q hq => absurd hq (Nat.not_lt_zero q)) (fun q hq => absurd hq (Nat.not_lt_zero q)) (by omega))
      exact ⟨rfl, rfl, trivial⟩
    · skip
      rw [if_pos (show j < 2 by omega)] at hG
      refine J_iconst C (v := nI 0) dX6_readShore_127 (by decide) ?_
      exact E (b := false) dX6_readShore_128 (⟨hyg, Or.inl ⟨rfl, by rw [rdF_2 hF0 (by rw [hG]; omega), hG]; first | assumption | omega, by rw [rdF_2 hF0 (by rw [hG]; omega), hG]; exact hyd⟩⟩)
  refine J_aload_n C dX6_readShore_0 rfl rfl ?_
  refine J_iconst C (v := nI 0) dX6_readShore_1 (by decide) ?_
  refine P6_readPools C wd_9_14 dX6_readShore_2 ?_
  refine J_aload_n C dX6_readShore_5 rfl rfl ?_
  refine J_iconst C (v := nI 0) dX6_readShore_6 (by decide) ?_
  refine P6_readMembers C wd_9_15 dX6_readShore_7 ?_
  have hd0 : Rm (mI (mI x 19 (nI 0)) 20 (nI 0)) s n c 0 := (hd.int (by decide)).int (by decide)
  have hg0 : FN 16 21 21 26 x (mI (mI x 19 (nI 0)) 20 (nI 0)) := (FN.int (by omega) (by omega)).tr (FN.int (by omega) (by omega))
  have hp0 : ((mI (mI x 19 (nI 0)) 20 (nI 0))).1 19 = nI 0 := (mI_ne (by decide)).trans mI_eq
  have hq0 : ((mI (mI x 19 (nI 0)) 20 (nI 0))).1 20 = nI 0 := mI_eq
  generalize mI (mI x 19 (nI 0)) 20 (nI 0) = y0 at hd0 hg0 hp0 hq0 ⊢
  refine J_aload_n C dX6_readShore_10 rfl rfl ?_
  refine J_iload_n C dX6_readShore_11 rfl rfl ?_
  refine J_bipush C (v := nI 114) dX6_readShore_12 (by decide) ?_
  refine J_callVz C (q0 := 0) (ci := 6) (N := 33) (As := [.int (nI (s + n)), .int (nI 114)]) (c_X6_isSign l Z _ hin hd0 _ (by omega)) cw_RX6_131 wd_9_20 wd_9_21 rfl rfl rfl rfl (Nat.le_of_ble_eq_true rfl) rfl rfl (Nat.le_of_ble_eq_true rfl) (Nat.le_of_ble_eq_true rfl) dX6_readShore_14 (fun b14 x14 hp14 => ?_)
  rcases hp14 with ⟨rfl, hs14, rfl⟩ | ⟨rfl, hs14, hf14, hd14⟩
  · skip
    refine J_if_ne_b C (tgt := 22) dX6_readShore_17 (by decide) (fun c17 => absurd c17 (by decide)) (fun c17 => ?_)
    refine J_iconst C (v := nI 0) dX6_readShore_20 (by decide) ?_
    exact E (b := false) dX6_readShore_21 (⟨hg0, Or.inl ⟨rfl, by rw [rdF_1 (by rw [hdF_1 hs14]; decide), hdF_1 hs14]; first | assumption | omega, by rw [rdF_1 (by rw [hdF_1 hs14]; decide), hdF_1 hs14]; exact hd0⟩⟩)
  · skip
    refine J_if_ne_b C (tgt := 22) dX6_readShore_17 (by decide) (fun c17 => ?_) (fun c17 => absurd c17 (by decide))
    refine J_aload_n C dX6_readShore_22 rfl rfl ?_
    refine J_aload_n C dX6_readShore_23 rfl rfl ?_
    refine J_iload_n C dX6_readShore_24 rfl rfl ?_
    refine J_iconst C (v := nI 1) dX6_readShore_25 (by decide) ?_
    refine J_iconst C (v := nI 3) dX6_readShore_26 (by decide) ?_
    refine J_callVi C (q0 := 0) (ci := 6) (N := 33) (As := [.int (nI (s + n)), .int (nI 1), .int (nI 3)]) (c_X6_digit l Z _ hin hd14 _ _ (by omega) (by omega)) cw_RX6_135 wd_10_0 wd_10_1 rfl rfl rfl rfl (Nat.le_of_ble_eq_true rfl) rfl rfl (Nat.le_of_ble_eq_true rfl) (Nat.le_of_ble_eq_true rfl) dX6_readShore_27 (fun r27 x27 hp27 => ?_)
    obtain ⟨rfl, hf27, hd27⟩ := hp27
    refine P6_readStream C wd_9_16 dX6_readShore_30 ?_
    have hdA : Rm (mI x27 16 (less1 (dgt c n (1) 1 3))) s n c (1 + adv (dgt c n (1) 1 3)) := hd27.int (by decide)
    have hgA : FN 16 21 21 26 x (mI x27 16 (less1 (dgt c n (1) 1 3))) := ((hg0.tr hf14.g).tr hf27.g).tr (FN.int (by omega) (by omega))
    have hvA : ((mI x27 16 (less1 (dgt c n (1) 1 3)))).1 16 = less1 (dgt c n (1) 1 3) := mI_eq
    have hpA : ((mI x27 16 (less1 (dgt c n (1) 1 3)))).1 19 = nI 0 := (mI_ne (by decide)).trans ((hf27.2 _ (by decide)).trans ((hf14.2 _ (by decide)).trans hp0))
    have hqA : ((mI x27 16 (less1 (dgt c n (1) 1 3)))).1 20 = nI 0 := (mI_ne (by decide)).trans ((hf27.2 _ (by decide)).trans ((hf14.2 _ (by decide)).trans hq0))
    generalize mI x27 16 (less1 (dgt c n (1) 1 3)) = yA at hdA hgA hvA hpA hqA ⊢
    refine J_aload_n C dX6_readShore_33 rfl rfl ?_
    refine G6_readStream C wd_9_16 dX6_readShore_34 ?_
    rw [show yA.1 16 = less1 (dgt c n (1) 1 3) from hvA]
    refine J_bipush C (v := (-9)) dX6_readShore_37 (by decide) ?_
    refine J_icmp_ne C (tgt := 44) dX6_readShore_39 (by decide) (fun c39 => ?_) (fun c39 => ?_)
    · skip
      have z1 : dgt c n (1) 1 3 ≠ 0 := fun e => c39 (by rw [e]; rfl)
      rw [adv1 z1] at hdA
      refine J_aload_n C dX6_readShore_44 rfl rfl ?_
      refine J_aload_n C dX6_readShore_45 rfl rfl ?_
      refine J_iload_n C dX6_readShore_46 rfl rfl ?_
      refine J_iconst C (v := nI 0) dX6_readShore_47 (by decide) ?_
      refine J_bipush C (v := nI 9) dX6_readShore_48 (by decide) ?_
      refine J_callVi C (q0 := 0) (ci := 6) (N := 33) (As := [.int (nI (s + n)), .int (nI 0), .int (nI 9)]) (c_X6_digit l Z _ hin hdA _ _ (by omega) (by omega)) cw_RX6_135 wd_10_0 wd_10_1 rfl rfl rfl rfl (Nat.le_of_ble_eq_true rfl) rfl rfl (Nat.le_of_ble_eq_true rfl) (Nat.le_of_ble_eq_true rfl) dX6_readShore_50 (fun r50 x50 hp50 => ?_)
      obtain ⟨rfl, hf50, hd50⟩ := hp50
      refine P6_readMild C wd_9_17 dX6_readShore_53 ?_
      have hdB : Rm (mI x50 17 (less1 (dgt c n (2) 0 9))) s n c (2 + adv (dgt c n (2) 0 9)) := hd50.int (by decide)
      have hgB : FN 16 21 21 26 x (mI x50 17 (less1 (dgt c n (2) 0 9))) := (hgA.tr hf50.g).tr (FN.int (by omega) (by omega))
      have hvB : ((mI x50 17 (less1 (dgt c n (2) 0 9)))).1 17 = less1 (dgt c n (2) 0 9) := mI_eq
      have hpB : ((mI x50 17 (less1 (dgt c n (2) 0 9)))).1 19 = nI 0 := (mI_ne (by decide)).trans ((hf50.2 _ (by decide)).trans hpA)
      have hqB : ((mI x50 17 (less1 (dgt c n (2) 0 9)))).1 20 = nI 0 := (mI_ne (by decide)).trans ((hf50.2 _ (by decide)).trans hqA)
      have hvA2 : ((mI x50 17 (less1 (dgt c n (2) 0 9)))).1 16 = less1 (dgt c n (1) 1 3) := (mI_ne (by decide)).trans ((hf50.2 _ (by decide)).trans hvA)
      generalize mI x50 17 (less1 (dgt c n (2) 0 9)) = yB at hdB hgB hvB hpB hqB hvA2 ⊢
      refine J_aload_n C dX6_readShore_56 rfl rfl ?_
      refine G6_readMild C wd_9_17 dX6_readShore_57 ?_
      rw [show yB.1 17 = less1 (dgt c n (2) 0 9) from hvB]
      refine J_bipush C (v := (-9)) dX6_readShore_60 (by decide) ?_
      refine J_icmp_ne C (tgt := 67) dX6_readShore_62 (by decide) (fun c62 => ?_) (fun c62 => ?_)
      · skip
        have z2 : dgt c n (2) 0 9 ≠ 0 := fun e => c62 (by rw [e]; rfl)
        rw [adv1 z2] at hdB
        refine J_aload_n C dX6_readShore_67 rfl rfl ?_
        refine J_aload_n C dX6_readShore_68 rfl rfl ?_
        refine J_iload_n C dX6_readShore_69 rfl rfl ?_
        refine J_iconst C (v := nI 0) dX6_readShore_70 (by decide) ?_
        refine J_bipush C (v := nI 9) dX6_readShore_71 (by decide) ?_
        refine J_callVi C (q0 := 0) (ci := 6) (N := 33) (As := [.int (nI (s + n)), .int (nI 0), .int (nI 9)]) (c_X6_digit l Z _ hin hdB _ _ (by omega) (by omega)) cw_RX6_135 wd_10_0 wd_10_1 rfl rfl rfl rfl (Nat.le_of_ble_eq_true rfl) rfl rfl (Nat.le_of_ble_eq_true rfl) (Nat.le_of_ble_eq_true rfl) dX6_readShore_73 (fun r73 x73 hp73 => ?_)
        obtain ⟨rfl, hf73, hd73⟩ := hp73
        refine P6_readLeap C wd_9_18 dX6_readShore_76 ?_
        have hdC : Rm (mI x73 18 (less1 (dgt c n (3) 0 9))) s n c (3 + adv (dgt c n (3) 0 9)) := hd73.int (by decide)
        have hgC : FN 16 21 21 26 x (mI x73 18 (less1 (dgt c n (3) 0 9))) := (hgB.tr hf73.g).tr (FN.int (by omega) (by omega))
        have hvC : ((mI x73 18 (less1 (dgt c n (3) 0 9)))).1 18 = less1 (dgt c n (3) 0 9) := mI_eq
        have hpC : ((mI x73 18 (less1 (dgt c n (3) 0 9)))).1 19 = nI 0 := (mI_ne (by decide)).trans ((hf73.2 _ (by decide)).trans hpB)
        have hqC : ((mI x73 18 (less1 (dgt c n (3) 0 9)))).1 20 = nI 0 := (mI_ne (by decide)).trans ((hf73.2 _ (by decide)).trans hqB)
        have hvA3 : ((mI x73 18 (less1 (dgt c n (3) 0 9)))).1 16 = less1 (dgt c n (1) 1 3) := (mI_ne (by decide)).trans ((hf73.2 _ (by decide)).trans hvA2)
        have hvB2 : ((mI x73 18 (less1 (dgt c n (3) 0 9)))).1 17 = less1 (dgt c n (2) 0 9) := (mI_ne (by decide)).trans ((hf73.2 _ (by decide)).trans hvB)
        generalize mI x73 18 (less1 (dgt c n (3) 0 9)) = yC at hdC hgC hvC hpC hqC hvA3 hvB2 ⊢
        refine J_aload_n C dX6_readShore_79 rfl rfl ?_
        refine G6_readLeap C wd_9_18 dX6_readShore_80 ?_
        rw [show yC.1 18 = less1 (dgt c n (3) 0 9) from hvC]
        refine J_bipush C (v := (-9)) dX6_readShore_83 (by decide) ?_
        refine J_icmp_ne C (tgt := 90) dX6_readShore_85 (by decide) (fun c85 => ?_) (fun c85 => ?_)
        · skip
          have z3 : dgt c n (3) 0 9 ≠ 0 := fun e => c85 (by rw [e]; rfl)
          rw [adv1 z3] at hdC
          have hF0 : hdF c n = 0 := hdF_0 hs14 z1 z2 z3
          have lp90 : ∀ (f : Nat) (j : Nat) (y : Mt), (j ≤ 6) → (¬ fst (badP c n) j < j) → (FN 16 21 21 26 x y) → (Rm y s n c (4 + 3 * j)) → (y.1 19 = nI j) → (y.1 20 = nI 0) → (y.1 16 = nI (dgt c n (1) 1 3 - 1)) → (y.1 17 = nI (dgt c n (2) 0 9 - 1)) → (y.1 18 = nI (dgt c n (3) 0 9 - 1)) → (∀ q, q < j → y.2 21 q = nI (dgt c n (4 + 3 * q + 1) 1 9 - 1)) → (∀ q, q < j → y.2 22 q = nI (dgt c n (4 + 3 * q + 1 + 1) 1 9 - 1)) → (7 - j < f) →  J Γ y 90 [some (.ref (Z.2.1 0)), some (.int (nI (s + n)))] [] := by
            intro f
            induction f with
            | zero =>
              intro j y hj hv hyg hyd hyp hyz hs0 hs1 hs2 hya hyb hf
              omega
            | succ f ih90 =>
              intro j y hj hv hyg hyd hyp hyz hs0 hs1 hs2 hya hyb hf
              refine J_aload_n C dX6_readShore_90 rfl rfl ?_
              refine G6_readPools C wd_9_14 dX6_readShore_91 ?_
              rw [show y.1 19 = nI j from hyp]
              refine J_bipush C (v := nI 6) dX6_readShore_94 (by decide) ?_
              refine J_icmp_ge_n C (tgt := 119) dX6_readShore_96 (by decide) (by omega) (by omega) (fun c96 => ?_) (fun c96 => ?_)
              · skip
                have hP := nP_6 hv (show j = 6 by omega)
                have hG : plF c n = (if j < 2 then 4 + 3 * j + 1 else 0) := by unfold plF; rw [hP]; exact plG_s (fun h => absurd h (by omega))
                refine J_drop ?_ (ct119 j y (by omega) hF0 hP hG hyg hyd hyp hyz hs0 hs1 hs2 hya hyb)
                exact ⟨rfl, rfl, trivial⟩
              · skip
                refine J_aload_n C dX6_readShore_99 rfl rfl ?_
                refine J_iload_n C dX6_readShore_100 rfl rfl ?_
                refine J_bipush C (v := nI 44) dX6_readShore_101 (by decide) ?_
                refine J_callVz C (q0 := 0) (ci := 6) (N := 33) (As := [.int (nI (s + n)), .int (nI 44)]) (c_X6_isSign l Z _ hin hyd _ (by omega)) cw_RX6_131 wd_9_20 wd_9_21 rfl rfl rfl rfl (Nat.le_of_ble_eq_true rfl) rfl rfl (Nat.le_of_ble_eq_true rfl) (Nat.le_of_ble_eq_true rfl) dX6_readShore_103 (fun b103 x103 hp103 => ?_)
                rcases hp103 with ⟨rfl, hs103, rfl⟩ | ⟨rfl, hs103, hf103, hd103⟩
                · skip
                  have hP := nP_hit hv (by omega) (badP_s hs103)
                  have hG : plF c n = (if j < 2 then 4 + 3 * j + 1 else 0) := by unfold plF; rw [hP]; exact plG_s (fun _ => hs103)
                  refine J_if_eq_b C (tgt := 119) dX6_readShore_106 (by decide) (fun c106 => ?_) (fun c106 => absurd c106 (by decide))
                  refine J_drop ?_ (ct119 j y (by omega) hF0 hP hG hyg hyd hyp hyz hs0 hs1 hs2 hya hyb)
                  exact ⟨rfl, rfl, trivial⟩
                · skip
                  refine J_if_eq_b C (tgt := 119) dX6_readShore_106 (by decide) (fun c106 => absurd c106 (by decide)) (fun c106 => ?_)
                  refine J_aload_n C dX6_readShore_109 rfl rfl ?_
                  refine J_iload_n C dX6_readShore_110 rfl rfl ?_
                  refine J_callVz C (q0 := 0) (ci := 6) (N := 33) (As := [.int (nI (s + n))]) (c_X6_readPool l Z _ hin hd103 (show j < 6 by omega) ((hf103.2 _ (by decide)).trans hyp)) cw_RX6_139 wd_10_4 wd_10_5 rfl rfl rfl rfl (Nat.le_of_ble_eq_true rfl) rfl rfl (Nat.le_of_ble_eq_true rfl) (Nat.le_of_ble_eq_true rfl) dX6_readShore_111 (fun b111 x111 hp111 => ?_)
                  obtain ⟨hg111, hp111⟩ := hp111
                  rcases hp111 with ⟨rfl, hz111, hd111⟩ | ⟨rfl, hz111, hy111, hd111⟩ | ⟨rfl, hz111, hy111, hd111, hj111, ha111, hb111⟩
                  · skip
                    have hP := nP_hit hv (by omega) (badP_1 hz111)
                    have hG : plF c n = 4 + 3 * j + 1 + 1 := by unfold plF; rw [hP]; exact plG_1 (by omega) hs103 hz111
                    refine J_if_ne_b C (tgt := 90) dX6_readShore_114 (by decide) (fun c114 => absurd c114 (by decide)) (fun c114 => ?_)
                    refine J_iconst C (v := nI 0) dX6_readShore_117 (by decide) ?_
                    exact E (b := false) dX6_readShore_118 (⟨(hyg.tr (hf103.g.tr (hg111.w (fun u hu => by omega) (fun u hu => by omega)))), Or.inl ⟨rfl, by rw [rdF_2 hF0 (by rw [hG]; omega), hG]; first | assumption | omega, by rw [rdF_2 hF0 (by rw [hG]; omega), hG]; exact hd111⟩⟩)
                  · skip
                    have hP := nP_hit hv (by omega) (badP_2 hy111)
                    have hG : plF c n = 4 + 3 * j + 1 + 1 + 1 := by unfold plF; rw [hP]; exact plG_2 (by omega) hs103 hz111
                    refine J_if_ne_b C (tgt := 90) dX6_readShore_114 (by decide) (fun c114 => absurd c114 (by decide)) (fun c114 => ?_)
                    refine J_iconst C (v := nI 0) dX6_readShore_117 (by decide) ?_
                    exact E (b := false) dX6_readShore_118 (⟨(hyg.tr (hf103.g.tr (hg111.w (fun u hu => by omega) (fun u hu => by omega)))), Or.inl ⟨rfl, by rw [rdF_2 hF0 (by rw [hG]; omega), hG]; first | assumption | omega, by rw [rdF_2 hF0 (by rw [hG]; omega), hG]; exact hd111⟩⟩)
                  · skip
                    refine J_if_ne_b C (tgt := 90) dX6_readShore_114 (by decide) (fun c114 => ?_) (fun c114 => absurd c114 (by decide))
                    refine J_drop ?_ (ih90 (j + 1) x111 (by omega) (fst_go hv (badP_n hs103 hz111 hy111)) (hyg.tr (hf103.g.tr (hg111.w (fun u hu => by omega) (fun u hu => by omega)))) hd111 hj111 ((hg111.1 _ (by decide) (by omega)).trans ((hf103.2 _ (by decide)).trans hyz)) ((hg111.1 _ (by decide) (by omega)).trans ((hf103.2 _ (by decide)).trans hs0)) ((hg111.1 _ (by decide) (by omega)).trans ((hf103.2 _ (by decide)).trans hs1)) ((hg111.1 _ (by decide) (by omega)).trans ((hf103.2 _ (by decide)).trans hs2)) (updN hya (ha111.trans (by rw [hf103.1])) rfl) (updN hyb (hb111.trans (by rw [hf103.1])) rfl) (by omega))
                    exact ⟨rfl, rfl, trivial⟩
          refine J_drop ?_ (lp90 8 0 yC (by omega) (Nat.not_lt_zero _) hgC hdC hpC hqC (hvA3.trans (less1_n z1)) (hvB2.trans (less1_n z2)) (hvC.trans (less1_n z3)) (fun q hq => absurd hq (Nat.not_lt_zero q)) (fun q hq => absurd hq (Nat.not_lt_zero q)) (by omega))
          exact ⟨rfl, rfl, trivial⟩
        · skip
          have z3 : dgt c n (3) 0 9 = 0 := less1_eq c85 (by have : dgt c n (3) 0 9 ≤ 10 := dgt_le; omega)
          refine J_iconst C (v := nI 0) dX6_readShore_88 (by decide) ?_
          exact E (b := false) dX6_readShore_89 (⟨hgC, Or.inl ⟨rfl, by rw [rdF_1 (by rw [hdF_4 hs14 z1 z2 z3]; decide), hdF_4 hs14 z1 z2 z3]; first | assumption | omega, by rw [rdF_1 (by rw [hdF_4 hs14 z1 z2 z3]; decide), hdF_4 hs14 z1 z2 z3]; exact (by rw [adv_z z3] at hdC; exact hdC)⟩⟩)
      · skip
        have z2 : dgt c n (2) 0 9 = 0 := less1_eq c62 (by have : dgt c n (2) 0 9 ≤ 10 := dgt_le; omega)
        refine J_iconst C (v := nI 0) dX6_readShore_65 (by decide) ?_
        exact E (b := false) dX6_readShore_66 (⟨hgB, Or.inl ⟨rfl, by rw [rdF_1 (by rw [hdF_3 hs14 z1 z2]; decide), hdF_3 hs14 z1 z2]; first | assumption | omega, by rw [rdF_1 (by rw [hdF_3 hs14 z1 z2]; decide), hdF_3 hs14 z1 z2]; exact (by rw [adv_z z2] at hdB; exact hdB)⟩⟩)
    · skip
      have z1 : dgt c n (1) 1 3 = 0 := less1_eq c39 (by have : dgt c n (1) 1 3 ≤ 4 := dgt_le; omega)
      refine J_iconst C (v := nI 0) dX6_readShore_42 (by decide) ?_
      exact E (b := false) dX6_readShore_43 (⟨hgA, Or.inl ⟨rfl, by rw [rdF_1 (by rw [hdF_2 hs14 z1]; decide), hdF_2 hs14 z1]; first | assumption | omega, by rw [rdF_1 (by rw [hdF_2 hs14 z1]; decide), hdF_2 hs14 z1]; exact (by rw [adv_z z1] at hdA; exact hdA)⟩⟩)
def rm_X6_takeShore : Room := ({ frames := 0, cells := 0, slots := 0, locals := 0 })
set_option maxRecDepth 20000 in
theorem c_X6_takeShore (l : Launch) (Z : EC) (x : Mt) (a : SA) (ok : SOK a) (hd : RdM x a) : MIv l Z (wM Z) yX6_takeShore cX6_takeShore 2 rm_X6_takeShore [.ref (Z.2.1 0)] x (fun x1 => MdR x1 a ∧ x1.1 29 = nI 0 ∧ FT x x1) := by
  obtain ⟨ok0, ok1, ok2, ok3, ok4, ok5, ok6, ok7⟩ := id ok
  refine MIv_of (own := RX6) (L0 := [some (.ref (Z.2.1 0)), none]) (by decide) rfl (Nat.le_of_ble_eq_true rfl) ⟨rfl, trivial⟩ ?_
  intro Γ C E
  refine J_aload_n C dX6_takeShore_0 rfl rfl ?_
  refine J_aload_n C dX6_takeShore_1 rfl rfl ?_
  refine G6_readStream C wd_9_16 dX6_takeShore_2 ?_
  rw [show x.1 16 = nI (a.1 0) from hd.1]
  refine P6_stream C wd_10_15 dX6_takeShore_5 ?_
  refine J_aload_n C dX6_takeShore_8 rfl rfl ?_
  refine J_aload_n C dX6_takeShore_9 rfl rfl ?_
  refine G6_readMild C wd_9_17 dX6_takeShore_10 ?_
  rw [show (mI x 7 (nI (a.1 0))).1 17 = nI (a.1 1) from hd.2.1]
  refine P6_mild C wd_10_16 dX6_takeShore_13 ?_
  refine J_aload_n C dX6_takeShore_16 rfl rfl ?_
  refine J_aload_n C dX6_takeShore_17 rfl rfl ?_
  refine G6_readLeap C wd_9_18 dX6_takeShore_18 ?_
  rw [show (mI (mI x 7 (nI (a.1 0))) 8 (nI (a.1 1))).1 18 = nI (a.1 2) from hd.2.2.1]
  refine P6_leapNow C wd_10_17 dX6_takeShore_21 ?_
  refine J_aload_n C dX6_takeShore_24 rfl rfl ?_
  refine J_aload_n C dX6_takeShore_25 rfl rfl ?_
  refine G6_readPools C wd_9_14 dX6_takeShore_26 ?_
  rw [show (mI (mI (mI x 7 (nI (a.1 0))) 8 (nI (a.1 1))) 9 (nI (a.1 2))).1 19 = nI (a.1 3) from hd.2.2.2.1]
  refine P6_pools C wd_10_18 dX6_takeShore_29 ?_
  refine J_iconst C (v := nI 0) dX6_takeShore_32 (by decide) ?_
  refine J_istore_n C (L' := [some (.ref (Z.2.1 0)), some (.int (nI 0))]) dX6_takeShore_33 rfl (by decide) rfl rfl ?_
  have lp34 : ∀ (f : Nat) (i : Nat) (y : Mt), (i ≤ a.1 3) → (FT x y) → (y.1 7 = nI (a.1 0)) → (y.1 8 = nI (a.1 1)) → (y.1 9 = nI (a.1 2)) → (y.1 5 = nI (a.1 3)) → (∀ q, q < i → y.2 10 q = nI (a.2 0 q)) → (∀ q, q < i → y.2 11 q = nI (a.2 1 q)) → (a.1 3 - i < f) →  J Γ y 34 [some (.ref (Z.2.1 0)), some (.int (nI i))] [] := by
    intro f
    induction f with
    | zero =>
      intro i y hi hyt hi0 hi1 hi2 hi3 hb0 hb1 hf
      omega
    | succ f ih34 =>
      intro i y hi hyt hi0 hi1 hi2 hi3 hb0 hb1 hf
      refine J_iload_n C dX6_takeShore_34 rfl rfl ?_
      refine J_aload_n C dX6_takeShore_35 rfl rfl ?_
      refine G6_pools C wd_10_18 dX6_takeShore_36 ?_
      rw [show y.1 5 = nI (a.1 3) from hi3]
      refine J_icmp_ge_n C (tgt := 72) dX6_takeShore_39 (by decide) (by omega) (by omega) (fun c39 => ?_) (fun c39 => ?_)
      · skip
        refine J_aload_n C dX6_takeShore_72 rfl rfl ?_
        refine J_aload_n C dX6_takeShore_73 rfl rfl ?_
        refine G6_readMembers C wd_9_15 dX6_takeShore_74 ?_
        rw [show y.1 20 = nI (a.1 4) from (hyt.rd hd).2.2.2.2.1]
        refine P6_members C wd_8_16 dX6_takeShore_77 ?_
        refine J_iconst C (v := nI 0) dX6_takeShore_80 (by decide) ?_
        refine J_istore_n C (L' := [some (.ref (Z.2.1 0)), some (.int (nI 0))]) dX6_takeShore_81 rfl (by decide) rfl rfl ?_
        have lp82 : ∀ (f : Nat) (i : Nat) (y : Mt), (i ≤ a.1 4) → (FT x y) → (y.1 7 = nI (a.1 0)) → (y.1 8 = nI (a.1 1)) → (y.1 9 = nI (a.1 2)) → (y.1 5 = nI (a.1 3)) → (y.1 6 = nI (a.1 4)) → (∀ q, q < a.1 3 → y.2 10 q = nI (a.2 0 q)) → (∀ q, q < a.1 3 → y.2 11 q = nI (a.2 1 q)) → (∀ q, q < i → y.2 12 q = nI (a.2 2 q)) → (∀ q, q < i → y.2 13 q = nI (a.2 3 q)) → (∀ q, q < i → y.2 14 q = nI (a.2 4 q)) → (a.1 4 - i < f) →  J Γ y 82 [some (.ref (Z.2.1 0)), some (.int (nI i))] [] := by
          intro f
          induction f with
          | zero =>
            intro i y hi hyt hi0 hi1 hi2 hi3 hi4 hb0 hb1 hb2 hb3 hb4 hf
            omega
          | succ f ih82 =>
            intro i y hi hyt hi0 hi1 hi2 hi3 hi4 hb0 hb1 hb2 hb3 hb4 hf
            refine J_iload_n C dX6_takeShore_82 rfl rfl ?_
            refine J_aload_n C dX6_takeShore_83 rfl rfl ?_
            refine G6_members C wd_8_16 dX6_takeShore_84 ?_
            rw [show y.1 6 = nI (a.1 4) from hi4]
            refine J_icmp_ge_n C (tgt := 132) dX6_takeShore_87 (by decide) (by omega) (by omega) (fun c87 => ?_) (fun c87 => ?_)
            · skip
              refine J_aload_n C dX6_takeShore_132 rfl rfl ?_
              refine J_iconst C (v := nI 0) dX6_takeShore_133 (by decide) ?_
              refine P6_readings C wd_10_19 dX6_takeShore_134 ?_
              exact E dX6_takeShore_137 (⟨⟨(mI_ne (by decide)).trans hi0, (mI_ne (by decide)).trans hi1, (mI_ne (by decide)).trans hi2, (mI_ne (by decide)).trans hi3, (mI_ne (by decide)).trans hi4, fun j hj => ⟨hb0 j hj, hb1 j hj⟩, fun j hj => ⟨hb2 j (by omega), hb3 j (by omega), hb4 j (by omega)⟩⟩, mI_eq, hyt.tr (FT.int (by omega))⟩)
            · skip
              refine J_aload_n C dX6_takeShore_90 rfl rfl ?_
              refine G6_kind C wd_3_23 dX6_takeShore_91 ?_
              refine J_iload_n C dX6_takeShore_94 rfl rfl ?_
              refine J_aload_n C dX6_takeShore_95 rfl rfl ?_
              refine G6_readKind C wd_4_4 dX6_takeShore_96 ?_
              refine J_iload_n C dX6_takeShore_99 rfl rfl ?_
              refine LM_readKind C (v := nI (a.2 2 i)) (by omega) (((hyt.rd hd).2.2.2.2.2.2 i (by omega)).1) dX6_takeShore_100 ?_
              refine SM_kind C (by omega) dX6_takeShore_101 ?_
              refine J_aload_n C dX6_takeShore_102 rfl rfl ?_
              refine G6_poolOf C wd_4_0 dX6_takeShore_103 ?_
              refine J_iload_n C dX6_takeShore_106 rfl rfl ?_
              refine J_aload_n C dX6_takeShore_107 rfl rfl ?_
              refine G6_readPoolOf C wd_4_5 dX6_takeShore_108 ?_
              refine J_iload_n C dX6_takeShore_111 rfl rfl ?_
              refine LM_readPoolOf C (v := nI (a.2 3 i)) (by omega) ((((hyt.tr (FT.arr (by omega))).rd hd).2.2.2.2.2.2 i (by omega)).2.1) dX6_takeShore_112 ?_
              refine SM_poolOf C (by omega) dX6_takeShore_113 ?_
              refine J_aload_n C dX6_takeShore_114 rfl rfl ?_
              refine G6_view C wd_4_1 dX6_takeShore_115 ?_
              refine J_iload_n C dX6_takeShore_118 rfl rfl ?_
              refine J_aload_n C dX6_takeShore_119 rfl rfl ?_
              refine G6_readView C wd_4_6 dX6_takeShore_120 ?_
              refine J_iload_n C dX6_takeShore_123 rfl rfl ?_
              refine LM_readView C (v := nI (a.2 4 i)) (by omega) (((((hyt.tr (FT.arr (by omega))).tr (FT.arr (by omega))).rd hd).2.2.2.2.2.2 i (by omega)).2.2) dX6_takeShore_124 ?_
              refine SM_view C (by omega) dX6_takeShore_125 ?_
              refine J_iinc C (v := nI (i + 1)) (L' := [some (.ref (Z.2.1 0)), some (.int (nI (i + 1)))]) dX6_takeShore_126 rfl (nI_1 _) (by decide) rfl rfl ?_
              refine J_goto (tgt := 82) C dX6_takeShore_129 (by decide) ?_
              refine J_drop ?_ (ih82 (i + 1) (mA (mA (mA y 12 (upd (y.2 12) i (nI (a.2 2 i)))) 13 (upd ((mA y 12 (upd (y.2 12) i (nI (a.2 2 i)))).2 13) i (nI (a.2 3 i)))) 14 (upd ((mA (mA y 12 (upd (y.2 12) i (nI (a.2 2 i)))) 13 (upd ((mA y 12 (upd (y.2 12) i (nI (a.2 2 i)))).2 13) i (nI (a.2 3 i)))).2 14) i (nI (a.2 4 i)))) (by omega) (((hyt.tr (FT.arr (by omega))).tr (FT.arr (by omega))).tr (FT.arr (by omega))) hi0 hi1 hi2 hi3 hi4 (fun q hq => (congrFun ((mA_ne (by decide)).trans ((mA_ne (by decide)).trans (mA_ne (by decide)))) q).trans (hb0 q hq)) (fun q hq => (congrFun ((mA_ne (by decide)).trans ((mA_ne (by decide)).trans (mA_ne (by decide)))) q).trans (hb1 q hq)) (updS hb2 ((mA_ne (by decide)).trans ((mA_ne (by decide)).trans mA_eq)) rfl) (updS hb3 ((mA_ne (by decide)).trans (mA_eq.trans (by rw [mA_ne (by decide)]))) rfl) (updS hb4 (mA_eq.trans (by rw [mA_ne (by decide), mA_ne (by decide)])) rfl) (by omega))
              exact ⟨rfl, rfl, trivial⟩
        refine J_drop ?_ (lp82 (a.1 4 + 1) 0 (mI y 6 (nI (a.1 4))) (by omega) (hyt.tr (FT.int (by omega))) ((mI_ne (by decide)).trans hi0) ((mI_ne (by decide)).trans hi1) ((mI_ne (by decide)).trans hi2) ((mI_ne (by decide)).trans hi3) mI_eq (fun q hq => hb0 q (by omega)) (fun q hq => hb1 q (by omega)) (fun q hq => absurd hq (Nat.not_lt_zero q)) (fun q hq => absurd hq (Nat.not_lt_zero q)) (fun q hq => absurd hq (Nat.not_lt_zero q)) (by omega))
        exact ⟨rfl, rfl, trivial⟩
      · skip
        refine J_aload_n C dX6_takeShore_42 rfl rfl ?_
        refine G6_height C wd_3_21 dX6_takeShore_43 ?_
        refine J_iload_n C dX6_takeShore_46 rfl rfl ?_
        refine J_aload_n C dX6_takeShore_47 rfl rfl ?_
        refine G6_readHeight C wd_4_2 dX6_takeShore_48 ?_
        refine J_iload_n C dX6_takeShore_51 rfl rfl ?_
        refine LM_readHeight C (v := nI (a.2 0 i)) (by omega) (((hyt.rd hd).2.2.2.2.2.1 i (by omega)).1) dX6_takeShore_52 ?_
        refine SM_height C (by omega) dX6_takeShore_53 ?_
        refine J_aload_n C dX6_takeShore_54 rfl rfl ?_
        refine G6_depth C wd_3_22 dX6_takeShore_55 ?_
        refine J_iload_n C dX6_takeShore_58 rfl rfl ?_
        refine J_aload_n C dX6_takeShore_59 rfl rfl ?_
        refine G6_readDepth C wd_4_3 dX6_takeShore_60 ?_
        refine J_iload_n C dX6_takeShore_63 rfl rfl ?_
        refine LM_readDepth C (v := nI (a.2 1 i)) (by omega) ((((hyt.tr (FT.arr (by omega))).rd hd).2.2.2.2.2.1 i (by omega)).2) dX6_takeShore_64 ?_
        refine SM_depth C (by omega) dX6_takeShore_65 ?_
        refine J_iinc C (v := nI (i + 1)) (L' := [some (.ref (Z.2.1 0)), some (.int (nI (i + 1)))]) dX6_takeShore_66 rfl (nI_1 _) (by decide) rfl rfl ?_
        refine J_goto (tgt := 34) C dX6_takeShore_69 (by decide) ?_
        refine J_drop ?_ (ih34 (i + 1) (mA (mA y 10 (upd (y.2 10) i (nI (a.2 0 i)))) 11 (upd ((mA y 10 (upd (y.2 10) i (nI (a.2 0 i)))).2 11) i (nI (a.2 1 i)))) (by omega) ((hyt.tr (FT.arr (by omega))).tr (FT.arr (by omega))) hi0 hi1 hi2 hi3 (updS hb0 ((mA_ne (by decide)).trans mA_eq) rfl) (updS hb1 (mA_eq.trans (by rw [mA_ne (by decide)])) rfl) (by omega))
        exact ⟨rfl, rfl, trivial⟩
  refine J_drop ?_ (lp34 (a.1 3 + 1) 0 (mI (mI (mI (mI x 7 (nI (a.1 0))) 8 (nI (a.1 1))) 9 (nI (a.1 2))) 5 (nI (a.1 3))) (by omega) ((((FT.int (by omega)).tr (FT.int (by omega))).tr (FT.int (by omega))).tr (FT.int (by omega))) ((mI_ne (by decide)).trans ((mI_ne (by decide)).trans ((mI_ne (by decide)).trans mI_eq))) ((mI_ne (by decide)).trans ((mI_ne (by decide)).trans mI_eq)) ((mI_ne (by decide)).trans mI_eq) mI_eq (fun q hq => absurd hq (Nat.not_lt_zero q)) (fun q hq => absurd hq (Nat.not_lt_zero q)) (by omega))
  exact ⟨rfl, rfl, trivial⟩
def rm_X6_shore : Room := ({ frames := 4, cells := 0, slots := 0, locals := 88 })
set_option maxRecDepth 20000 in
theorem c_X6_shore (l : Launch) (Z : EC) (x : Mt) (A : AB) (hA : AbsM x A) (hk : AOK A) (k la i n : Int32) : MIi l Z (wM Z) yX6_shore cX6_shore 7 rm_X6_shore [.ref (Z.2.1 0), .int k, .int la, .int i, .int n] x (fun r x1 => r = R_shore A k la i n ∧ AbsM x1 (N_shore A k la i n)) := by
  obtain ⟨hr, hH, hR, hT, hF⟩ := id hA
  obtain ⟨ok, hkH, hkR, hkr⟩ := id hk
  obtain ⟨ok0, ok1, ok2, ok3, ok4, ok5, ok6, ok7⟩ := id ok
  refine MIi_of (own := RX6) (L0 := [some (.ref (Z.2.1 0)), some (.int k), some (.int la), some (.int i), some (.int n), none, none]) (by decide) rfl (Nat.le_of_ble_eq_true rfl) ⟨rfl, rfl, rfl, rfl, rfl, trivial⟩ ?_
  intro Γ C E
  refine J_aload_n C dX6_shore_0 rfl rfl ?_
  refine J_iconst C (v := nI 0) dX6_shore_1 (by decide) ?_
  refine P6_fault C wd_8_14 dX6_shore_2 ?_
  have hAz := absM_F (v := nI 0) hA
  generalize mI x 0 (nI 0) = x0 at hAz ⊢
  obtain ⟨hr2o, hH2o, hR2o, hT2, hF2⟩ := id hAz
  first | have hr2 : MdR x0 A.1 := hr2o | have hr2 := hr2o
  first | have hH2 : MH x0 A.2.1 := hH2o | have hH2 := hH2o
  first | have hR2 : MR x0 A.2.2.1 := hR2o | have hR2 := hR2o
  refine J_iload_n C dX6_shore_5 rfl rfl ?_
  refine J_callSz C (As := [.int k]) (c_X6_isSheet l Z _ _) cw_RX6_83 wd_8_18 rfl rfl (Nat.le_of_ble_eq_true rfl) rfl rfl (Nat.le_of_ble_eq_true rfl) (Nat.le_of_ble_eq_true rfl) dX6_shore_6 (fun b6 x6 hp6 => ?_)
  obtain ⟨rfl, rfl⟩ := hp6
  refine J_if_ne_d C (tgt := 14) dX6_shore_9 (by decide) (fun c9 => ?_) (fun c9 => ?_)
  · skip
    obtain ⟨kn, k0, k3, rfl⟩ := rng_nat2 (A := 0) (B := 3) c9
    have hkn : kn < 4 := by omega
    have tnk := tn_nI (n := kn) (by omega)
    have gk := hkH kn hkn
    refine J_iload_n C dX6_shore_14 rfl rfl ?_
    refine J_callSz C (As := [.int la]) (c_X6_isSort l Z _ _) cw_RX6_87 wd_9_0 rfl rfl (Nat.le_of_ble_eq_true rfl) rfl rfl (Nat.le_of_ble_eq_true rfl) (Nat.le_of_ble_eq_true rfl) dX6_shore_15 (fun b15 x15 hp15 => ?_)
    obtain ⟨rfl, rfl⟩ := hp15
    refine J_if_ne_d C (tgt := 24) dX6_shore_18 (by decide) (fun c18 => ?_) (fun c18 => ?_)
    · skip
      refine J_aload_n C dX6_shore_24 rfl rfl ?_
      refine J_iload_n C dX6_shore_25 rfl rfl ?_
      refine J_iload_n C dX6_shore_26 rfl rfl ?_
      refine J_iload_n C dX6_shore_27 rfl rfl ?_
      refine J_iload C dX6_shore_28 rfl ?_
      refine J_callVi C (q0 := 0) (ci := 6) (N := 33) (As := [.int (nI kn), .int la, .int i, .int n]) (c_X6_against l Z _ hkn A.2.1 hH2 gk.1 gk.2 _ _ _) cw_RX6_90 wd_9_3 wd_9_4 rfl rfl rfl rfl (Nat.le_of_ble_eq_true rfl) rfl rfl (Nat.le_of_ble_eq_true rfl) (Nat.le_of_ble_eq_true rfl) dX6_shore_30 (fun r30 x30 hp30 => ?_)
      obtain ⟨rfl, rfl⟩ := hp30
      refine J_istore C (L' := [some (.ref (Z.2.1 0)), some (.int (nI kn)), some (.int la), some (.int i), some (.int n), some (.int (nI (rowF A.2.1 kn la i n))), none]) dX6_shore_33 (by decide) rfl rfl ?_
      refine J_iload C dX6_shore_35 rfl ?_
      have hrl := rowF_le A.2.1 kn la i n
      refine J_if_eq_n C (tgt := 47) dX6_shore_37 (by decide) (by omega) (fun c37 => ?_) (fun c37 => ?_)
      · skip
        rw [c37]
        obtain ⟨q1, q2, q3, q4, q5⟩ := rowF0 c37
        obtain ⟨im, i0, i9, rfl⟩ := rng_nat2 (q := i) (A := 0) (B := A.2.1.2.1 kn) ⟨q3, q4⟩
        obtain ⟨nm, n0, n9, rfl⟩ := rng_nat2 (q := n) (A := 0) (B := A.2.1.2.1 kn) ⟨q2, by omega⟩
        have tni := tn_nI (n := im) (by omega)
        have tnn := tn_nI (n := nm) (by omega)
        rw [nI_i (by omega), nI_i (by omega)] at q5
        have hce : ceF A (nI kn) (nI im) = (fun p => A.2.1.2.2 kn (im + p)) := by unfold ceF; rw [tnk, tni]
        refine J_bipush C (v := nI 60) dX6_shore_47 (by decide) ?_
        refine J_iload_n C dX6_shore_49 rfl rfl ?_
        refine J_imul C (v := nI (60 * kn)) dX6_shore_50 (pk_mul _ _) ?_
        refine J_iload_n C dX6_shore_51 rfl rfl ?_
        refine J_iadd C (v := nI ((60 * kn) + im)) dX6_shore_52 (nI_add _ _) ?_
        refine J_istore C (L' := [some (.ref (Z.2.1 0)), some (.int (nI kn)), some (.int la), some (.int (nI im)), some (.int (nI nm)), some (.int (nI 0)), some (.int (nI ((60 * kn) + im)))]) dX6_shore_53 (by decide) rfl rfl ?_
        refine J_aload_n C dX6_shore_55 rfl rfl ?_
        refine J_iload C dX6_shore_56 rfl ?_
        refine P6_at C wd_8_15 dX6_shore_58 ?_
        have hAt : AbsM (mI x0 15 (nI ((60 * kn) + im))) (AsF A (nI 0)) := absM_at hAz
        have hdt : Rm (mI x0 15 (nI ((60 * kn) + im))) (60 * kn + im) nm (fun p => A.2.1.2.2 kn (im + p)) 0 := ⟨Nat.zero_le _, mI_eq, fun q hq => by show x0.2 4 (60 * kn + im + q) = _; rw [Nat.add_assoc]; exact ((hH2 kn hkn).2 q1).2 (im + q) (by omega)⟩
        generalize mI x0 15 (nI ((60 * kn) + im)) = x58 at hAt hdt ⊢
        refine J_aload_n C dX6_shore_61 rfl rfl ?_
        refine J_iload C dX6_shore_62 rfl ?_
        refine J_iload C dX6_shore_64 rfl ?_
        refine J_iadd C (v := nI (((60 * kn) + im) + nm)) dX6_shore_66 (nI_add _ _) ?_
        refine J_callVz C (q0 := 0) (ci := 6) (N := 33) (As := [.int (nI (((60 * kn) + im) + nm))]) (c_X6_readShore l Z _ (show 60 * kn + im + nm ≤ 240 by omega) hdt) cw_RX6_98 wd_9_11 wd_9_12 rfl rfl rfl rfl (Nat.le_of_ble_eq_true rfl) rfl rfl (Nat.le_of_ble_eq_true rfl) (Nat.le_of_ble_eq_true rfl) dX6_shore_67 (fun b67 x67 hp67 => ?_)
        obtain ⟨hg67, hp67⟩ := hp67
        rcases hp67 with ⟨rfl, hz67, hd67⟩ | ⟨rfl, hz67, hs67⟩
        · skip
          refine J_if_ne_b C (tgt := 84) dX6_shore_70 (by decide) (fun c70 => absurd c70 (by decide)) (fun c70 => ?_)
          refine J_bipush C (v := (-100)) dX6_shore_73 (by decide) ?_
          refine J_aload_n C dX6_shore_75 rfl rfl ?_
          refine G6_at C wd_8_15 dX6_shore_76 ?_
          rw [show x67.1 15 = nI (60 * kn + im + (rdF (fun p => A.2.1.2.2 kn (im + p)) nm - 1)) from hd67.2.1]
          refine J_iload C dX6_shore_79 rfl ?_
          refine J_isub C (v := nI (rdF (fun p => A.2.1.2.2 kn (im + p)) nm - 1)) dX6_shore_81 (by rw [pk_sub (by omega)]; congr 1; omega) ?_
          refine J_isub C (v := (-100) - nI (rdF (fun p => A.2.1.2.2 kn (im + p)) nm - 1)) dX6_shore_82 (rfl) ?_
          exact E dX6_shore_83 (⟨by rw [R_shore, if_pos c9, if_pos c18, tnk, if_pos c37, hce, tnn, if_neg hz67], by rw [N_shore, if_pos c9, if_pos c18, tnk, if_pos c37, hce, tnn, if_neg hz67]; exact hg67.absM hAt⟩)
        · skip
          refine J_if_ne_b C (tgt := 84) dX6_shore_70 (by decide) (fun c70 => ?_) (fun c70 => absurd c70 (by decide))
          refine J_aload_n C dX6_shore_84 rfl rfl ?_
          refine J_callVv C (q0 := 0) (ci := 6) (N := 33) (As := []) (c_X6_takeShore l Z _ (rdS (fun p => A.2.1.2.2 kn (im + p)) nm) (rdS_ok hz67).1 hs67) cw_RX6_101 wd_10_12 wd_10_13 rfl rfl rfl rfl (Nat.le_of_ble_eq_true rfl) rfl rfl (Nat.le_of_ble_eq_true rfl) (Nat.le_of_ble_eq_true rfl) dX6_shore_85 (fun x85 hp85 => ?_)
          obtain ⟨hm85, h29_85, ht85⟩ := hp85
          refine J_aload_n C dX6_shore_88 rfl rfl ?_
          refine G6n_members hm85 C wd_8_16 dX6_shore_89 ?_
          exact E dX6_shore_92 (⟨by rw [R_shore, if_pos c9, if_pos c18, tnk, if_pos c37, hce, tnn, if_pos hz67], by rw [N_shore, if_pos c9, if_pos c18, tnk, if_pos c37, hce, tnn, if_pos hz67]; exact absM_take2 hAt hg67 hm85 h29_85 ht85⟩)
      · skip
        refine J_aload_n C dX6_shore_40 rfl rfl ?_
        refine J_iload C dX6_shore_41 rfl ?_
        refine J_callVi C (q0 := 0) (ci := 6) (N := 33) (As := [.int (nI (rowF A.2.1 kn la i n))]) (c_X6_fails l Z _ (AsF A (nI 0)) hAz hk _) cw_RX6_94 wd_9_7 wd_9_8 rfl rfl rfl rfl (Nat.le_of_ble_eq_true rfl) rfl rfl (Nat.le_of_ble_eq_true rfl) (Nat.le_of_ble_eq_true rfl) dX6_shore_43 (fun r43 x43 hp43 => ?_)
        obtain ⟨rfl, hA43⟩ := hp43
        obtain ⟨hr43o, hH43o, hR43o, hT43, hF43⟩ := id hA43
        first | have hr43 : MdR x43 A.1 := hr43o | have hr43 := hr43o
        first | have hH43 : MH x43 A.2.1 := hH43o | have hH43 := hH43o
        first | have hR43 : MR x43 A.2.2.1 := hR43o | have hR43 := hR43o
        exact E dX6_shore_46 (⟨by rw [R_shore, if_pos c9, if_pos c18, tnk, if_neg c37] <;> rfl, by rw [N_shore, if_pos c9, if_pos c18, tnk, if_neg c37]; exact hA43⟩)
    · skip
      refine J_bipush C (v := (-2)) dX6_shore_21 (by decide) ?_
      exact E dX6_shore_23 (⟨by rw [R_shore, if_pos c9, if_neg c18] <;> first | rfl | decide, by rw [N_shore, if_pos c9, if_neg c18]; exact hAz⟩)
  · skip
    refine J_iconst C (v := (-1)) dX6_shore_12 (by decide) ?_
    exact E dX6_shore_13 (⟨by rw [R_shore, if_neg c9] <;> first | rfl | decide, by rw [N_shore, if_neg c9]; exact hAz⟩)
