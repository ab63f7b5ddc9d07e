-- a tide over all
def tidA (a : SA) (h i : Nat) : SA := (a.1, fun t j => if t = 3 then (if j < i then carry a (a.2 3 j) (a.2 2 j) h else a.2 3 j) else a.2 t j)
theorem tid_carry (a : SA) (h i : Nat) : carry (tidA a h i) ((tidA a h i).2 3 i) ((tidA a h i).2 2 i) h = carry a (a.2 3 i) (a.2 2 i) h := by
  have e : (tidA a h i).2 3 i = a.2 3 i := by simp [tidA]
  rw [e]; rfl
theorem tid_seat (a : SA) (h i : Nat) : (tidA a h i).2 3 i = a.2 3 i := by simp [tidA]
theorem tid_ok {a : SA} (ok : SOK a) (h i : Nat) : SOK (tidA a h i) := by
  obtain ⟨o0, o1, o2, o3, o4, o5, o6, o7⟩ := ok
  refine ⟨o0, o1, o2, o3, o4, o5, fun j hj => ?_, o7⟩
  obtain ⟨q1, q2, q3⟩ := o6 j hj
  refine ⟨q1, ?_, q3⟩
  show (tidA a h i).2 3 j < a.1 3
  by_cases e : j < i
  · rw [show (tidA a h i).2 3 j = carry a (a.2 3 j) (a.2 2 j) h by simp [tidA, e]]; exact carry_lt q2
  · rw [show (tidA a h i).2 3 j = a.2 3 j by simp [tidA, e]]; exact q2
theorem tided_ok {a : SA} (ok : SOK a) (h : Nat) : SOK (tided a h) := by
  obtain ⟨o0, o1, o2, o3, o4, o5, o6, o7⟩ := ok
  refine ⟨o0, o1, o2, o3, o4, o5, fun j hj => ?_, o7⟩
  obtain ⟨q1, q2, q3⟩ := o6 j hj
  exact ⟨q1, carry_lt q2, q3⟩
theorem ShR.ext {x : St} {w : Nat} {a b : SA} (h : ShR x w a) (h1 : ∀ i, b.1 i = a.1 i) (h2 : ∀ t, t < 2 → ∀ j, j < a.1 3 → b.2 t j = a.2 t j) (h3 : ∀ t, 2 ≤ t → t < 5 → ∀ j, j < a.1 4 → b.2 t j = a.2 t j) : ShR x w b := by
  obtain ⟨g0, g1, g2, g3, g4, g5, g6⟩ := h
  refine ⟨by rw [h1]; exact g0, by rw [h1]; exact g1, by rw [h1]; exact g2, by rw [h1]; exact g3, by rw [h1]; exact g4, fun j hj => ?_, fun j hj => ?_⟩
  · rw [h1] at hj
    rw [h2 0 (by omega) j hj, h2 1 (by omega) j hj]; exact g5 j hj
  · rw [h1] at hj
    rw [h3 2 (by omega) (by omega) j hj, h3 3 (by omega) (by omega) j hj, h3 4 (by omega) (by omega) j hj]; exact g6 j hj
theorem tid0 {x : St} {w : Nat} {a : SA} {h : Nat} (hr : ShR x w a) : ShR x w (tidA a h 0) := hr.ext (fun _ => rfl) (fun t ht j hj => if_neg (by omega)) (fun t h1 h2 j hj => by
  show (if t = 3 then (if j < 0 then _ else _) else _) = _
  split
  · rename_i e; subst e; exact if_neg (Nat.not_lt_zero j)
  · rfl)
theorem tid_step {x : St} {w i h : Nat} {a : SA} (hr : ShR x w (tidA a h i)) : ShR (setA x (29 + 6 * w) (upd (x.2.1 (29 + 6 * w)) i (nI (carry a (a.2 3 i) (a.2 2 i) h)))) w (tidA a h (i + 1)) := by
  have g := hr.setA (t := 3) (i := i) (v := carry a (a.2 3 i) (a.2 2 i) h) (by omega)
  refine ShR.ext g (fun _ => rfl) (fun t ht j hj => ?_) (fun t h1 h2 j hj => ?_)
  · show (if t = 3 then _ else _) = (if _ then _ else if t = 3 then _ else _)
    rw [if_neg (by omega), if_neg (by omega), if_neg (by omega)]
  · show (if t = 3 then (if j < i + 1 then _ else _) else _) = (if t = 3 ∧ j = i then _ else if t = 3 then (if j < i then _ else _) else _)
    by_cases e : t = 3
    · subst e
      by_cases e2 : j = i
      · subst e2; rw [if_pos rfl, if_pos (by omega), if_pos ⟨rfl, rfl⟩]
      · by_cases e3 : j < i
        · rw [if_pos rfl, if_pos (by omega), if_neg (by omega), if_pos rfl, if_pos e3]
        · rw [if_pos rfl, if_neg (by omega), if_neg (by omega), if_pos rfl, if_neg e3]
    · rw [if_neg e, if_neg (fun q => e q.1), if_neg e]
theorem tid_end {x : St} {w h : Nat} {a : SA} (hr : ShR x w (tidA a h (a.1 4))) : ShR x w (tided a h) := hr.ext (fun _ => rfl) (fun t ht j hj => by
  show (if t = 3 then _ else _) = (if t = 3 then _ else _)
  rw [if_neg (by omega), if_neg (by omega)]) (fun t h1 h2 j hj => by
  show (if t = 3 then _ else _) = (if t = 3 then (if j < a.1 4 then _ else _) else _)
  have hj2 : j < a.1 4 := hj
  split
  · first | rfl | exact (if_pos hj2).symm
  · rfl)
-- readings
theorem up2_same (g : Nat → Nat → Nat) (t i : Nat) : up2 g t i (g t i) = g := by
  funext u j
  show (if _ then _ else _) = _
  split
  · rename_i e; obtain ⟨rfl, rfl⟩ := e; rfl
  · rfl
theorem up2_up2 (g : Nat → Nat → Nat) (t i u v : Nat) : up2 (up2 g t i u) t i v = up2 g t i v := by
  funext a b
  show (if _ then _ else (if _ then _ else _)) = (if _ then _ else _)
  split <;> rfl
theorem up1_same (g : Nat → Nat) (i : Nat) : up1 g i (g i) = g := by
  funext j
  show (if _ then _ else _) = _
  split
  · rename_i e; rw [e]
  · rfl
theorem up1_up1 (g : Nat → Nat) (i u v : Nat) : up1 (up1 g i u) i v = up1 g i v := by
  funext a
  show (if _ then _ else (if _ then _ else _)) = (if _ then _ else _)
  split <;> rfl
theorem soR_false {a : SA} {rr : Nat → Nat → Nat} {i : Nat} (h : ¬ carry a (a.2 3 (rr 0 i)) (a.2 2 (rr 0 i)) (rr 1 i) = rr 2 i) : ∀ {n : Nat}, i < n → soR a rr n = false
  | 0, h2 => absurd h2 (Nat.not_lt_zero i)
  | n + 1, h2 => by
    show (soR a rr n && decide _) = false
    by_cases e : i = n
    · subst e; rw [decide_eq_false h, Bool.and_false]
    · rw [soR_false h (show i < n by omega), Bool.false_and]
theorem soR_step {a : SA} {rr : Nat → Nat → Nat} {i : Nat} (h0 : soR a rr i = true) (h : carry a (a.2 3 (rr 0 i)) (a.2 2 (rr 0 i)) (rr 1 i) = rr 2 i) : soR a rr (i + 1) = true := by
  show (soR a rr i && decide _) = true
  rw [h0, decide_eq_true h]; rfl
theorem or_no {p : Nat → Bool} {n : Nat} (h : ¬ p n = true) : nI (bits p n) ||| nI 0 = nI (bits p (n + 1)) := by
  have : bits p (n + 1) = bits p n := by
    show bits p n + (if p n then 2 ^ n else 0) = bits p n
    rw [if_neg h]; rfl
  rw [this, fa_or, Nat.or_zero]
theorem bits1V {p : Nat → Bool} (h : ¬ p 0 = true) : Value.int (nI (bits p 1)) = Value.int (nI 0) := bits_noV (p := p) (n := 0) h
-- odds
theorem pairs_le (a : SA) (m q : Nat) : ∀ n, pairs a m q n ≤ n
  | 0 => Nat.le_refl 0
  | n + 1 => by
    have := pairs_le a m q n
    unfold pairs
    split <;> omega
theorem pairs_yes {a : SA} {m q i j : Nat} (hj : j < 10) (h : carry a (carry a (a.2 3 m) (a.2 2 m) i) (a.2 2 m) j = q) : nI (pairs a m q (10 * i + j)) + nI 1 = nI (pairs a m q (10 * i + (j + 1))) := by
  rw [nI_add]
  have hp : pairs a m q (10 * i + (j + 1)) = pairs a m q (10 * i + j) + (if carry a (carry a (a.2 3 m) (a.2 2 m) ((10 * i + j) / 10)) (a.2 2 m) ((10 * i + j) % 10) = q then 1 else 0) := rfl
  rw [hp, show (10 * i + j) / 10 = i by omega, show (10 * i + j) % 10 = j by omega, if_pos h]
theorem pairs_no {a : SA} {m q i j : Nat} (hj : j < 10) (h : ¬ carry a (carry a (a.2 3 m) (a.2 2 m) i) (a.2 2 m) j = q) : nI (pairs a m q (10 * i + j)) + nI 0 = nI (pairs a m q (10 * i + (j + 1))) := by
  rw [nI_add]
  have hp : pairs a m q (10 * i + (j + 1)) = pairs a m q (10 * i + j) + (if carry a (carry a (a.2 3 m) (a.2 2 m) ((10 * i + j) / 10)) (a.2 2 m) ((10 * i + j) % 10) = q then 1 else 0) := rfl
  rw [hp, show (10 * i + j) / 10 = i by omega, show (10 * i + j) % 10 = j by omega, if_neg h]
theorem gcd_hit {u d : Nat} (h1 : 1 < d) (h2 : u % d = 0) (h3 : 100 % d = 0) : gcd100 u d = d := by
  obtain ⟨k, rfl⟩ : ∃ k, d = k + 2 := ⟨d - 2, by omega⟩
  show (if _ then (if _ then _ else _) else _) = _
  rw [if_pos h2, if_pos h3]
theorem gcd_m1 {u d : Nat} (h1 : 1 < d) (h2 : ¬ u % d = 0) : gcd100 u d = gcd100 u (d - 1) := by
  obtain ⟨k, rfl⟩ : ∃ k, d = k + 2 := ⟨d - 2, by omega⟩
  show (if _ then (if _ then _ else _) else _) = _
  rw [if_neg h2]; rfl
theorem gcd_m2 {u d : Nat} (h1 : 1 < d) (h2 : u % d = 0) (h3 : ¬ 100 % d = 0) : gcd100 u d = gcd100 u (d - 1) := by
  obtain ⟨k, rfl⟩ : ∃ k, d = k + 2 := ⟨d - 2, by omega⟩
  show (if _ then (if _ then _ else _) else _) = _
  rw [if_pos h2, if_neg h3]; rfl
theorem gcd_end {u d : Nat} (h1 : d ≤ 1) : gcd100 u d = 1 := by
  match d, h1 with
  | 0, _ => rfl
  | 1, _ => rfl
theorem gcd_rng (u : Nat) : ∀ d, 1 ≤ gcd100 u d ∧ gcd100 u d ≤ d + 1
  | 0 => ⟨Nat.le_refl 1, Nat.le_refl 1⟩
  | 1 => ⟨Nat.le_refl 1, (by decide : 1 ≤ 2)⟩
  | d + 2 => by
    have := gcd_rng u (d + 1)
    have h : gcd100 u (d + 2) = d + 2 ∨ gcd100 u (d + 2) = gcd100 u (d + 1) := by
      by_cases h1 : u % (d + 2) = 0
      · by_cases h2 : 100 % (d + 2) = 0
        · exact Or.inl (gcd_hit (by omega) h1 h2)
        · exact Or.inr (gcd_m2 (by omega) h1 h2)
      · exact Or.inr (gcd_m1 (by omega) h1)
    omega
-- best, turn
theorem bestF_no {a : SA} {n : Nat} (h : ¬ (bestF a n).2 < pop (won a (fri a n)) + 1) : bestF a (n + 1) = bestF a n := if_neg h
theorem bestF_yes {a : SA} {n : Nat} (h : (bestF a n).2 < pop (won a (fri a n)) + 1) : bestF a (n + 1) = (n, pop (won a (fri a n)) + 1) := if_pos h
theorem bestF_le (a : SA) : ∀ n, (bestF a n).2 ≤ 7 ∧ (bestF a n).1 ≤ n
  | 0 => ⟨(by decide : 0 ≤ 7), Nat.le_refl 0⟩
  | n + 1 => by
    have h := bestF_le a n
    have hp := pop_le (won a (fri a n))
    unfold bestF
    split
    · exact ⟨by show _ + 1 ≤ 7; omega, by show n ≤ n + 1; omega⟩
    · omega
theorem bestF_pos (a : SA) : ∀ n, 1 ≤ n → 1 ≤ (bestF a n).2
  | 0, h => by omega
  | n + 1, _ => by
    unfold bestF
    split
    · show 1 ≤ _ + 1; omega
    · rename_i h; omega
theorem less1_0 : less1 0 = (-9) := rfl
theorem less1_s (n : Nat) : less1 (n + 1) = nI n := rfl
theorem turnF_le (a : SA) (f : Nat) : ∀ n, turnF a f n ≤ n
  | 0 => Nat.le_refl 0
  | n + 1 => by
    have h := turnF_le a f n
    unfold turnF
    split
    · split
      · split
        · exact Nat.le_refl _
        · split
          · exact Nat.le_refl _
          · omega
      · omega
    · omega
theorem pow6 : ∀ n, n ≤ 6 → 2 ^ n ≤ 64 := by decide
theorem or64 {s f : Nat} (hs : s < 64) (hf : f < 64) : s ||| f < 64 := Nat.or_lt_two_pow (n := 6) hs hf
theorem best0 (a : SA) : Value.int (nI (bestF a 0).2 + (-1)) = Value.int (-1) := by
  show Value.int (nI 0 + (-1)) = _
  rw [show nI 0 + (-1) = (-1 : Int32) by decide]
theorem toI_m1 {n : Nat} (h : n < 1000) : (nI n + (-1)).toInt = (n : Int) - 1 := by
  rw [fb_addI (by rw [nI_i (by omega)]; show _ ≤ _ + (-1 : Int); omega) (by rw [nI_i (by omega)]; show _ + (-1 : Int) < _; omega), nI_i (by omega)]; rfl
theorem m1_nI {n : Nat} (h : 1 ≤ n) : nI n + (-1) = nI (n - 1) := by
  obtain ⟨k, rfl⟩ : ∃ k, n = k + 1 := ⟨n - 1, by omega⟩
  exact pk_m1 k
theorem less1_eq {n : Nat} (h : less1 n = (-9)) (hn : n < 1000 := by omega) : n = 0 := by
  by_cases e : n = 0
  · exact e
  · exfalso
    have h2 : nI (n - 1) = (-9) := (if_neg e).symm.trans h
    have h3 := congrArg Int32.toInt h2
    rw [nI_i (by omega)] at h3
    have : ((-9 : Int32)).toInt = -9 := by decide
    omega
theorem turn_a {a : SA} {f n : Nat} (h1 : n &&& f = 0) (h2 : isLaw a (n ||| f) = true) (h3 : turnF a f n = 0) : nI n = less1 (turnF a f (n + 1)) := by
  show _ = less1 (if _ then (if _ then (if _ then _ else _) else _) else _)
  rw [if_pos h1, if_pos h2, if_pos h3]; rfl
theorem turn_b {a : SA} {f n : Nat} (h1 : n &&& f = 0) (h2 : isLaw a (n ||| f) = true) (h3 : turnF a f n ≠ 0) (h4 : pop (turnF a f n - 1) ≤ pop n) : nI (turnF a f n - 1) = less1 (turnF a f (n + 1)) := by
  show _ = less1 (if _ then (if _ then (if _ then _ else (if _ then _ else _)) else _) else _)
  rw [if_pos h1, if_pos h2, if_neg h3, if_neg (by omega)]
  exact (if_neg h3).symm
theorem turn_c {a : SA} {f n : Nat} (h1 : n &&& f = 0) (h2 : isLaw a (n ||| f) = true) (h3 : turnF a f n ≠ 0) (h4 : pop n < pop (turnF a f n - 1)) : nI n = less1 (turnF a f (n + 1)) := by
  show _ = less1 (if _ then (if _ then (if _ then _ else (if _ then _ else _)) else _) else _)
  rw [if_pos h1, if_pos h2, if_neg h3, if_pos h4]; rfl
def rm_X4_carryAll : Room := ({ frames := 4, cells := 0, slots := 0, locals := 93 })
set_option maxRecDepth 20000 in
theorem c_X4_carryAll (l : Launch) (Z : EC) (x : St) {w : Nat} (hw : w < 2) {a : SA} (hr : ShR x w a) (ok : SOK a) (h : Nat) (hh : h < 100) : MIi l Z (wC Z) yX4_carryAll cX4_carryAll 5 rm_X4_carryAll [.ref (Z.2.1 (25 + 6 * w)), .int (nI h)] x (fun r x1 => r = nI (mvd a h) ∧ ShR x1 w (tided a h) ∧ FRW w x x1) := by
  obtain ⟨ok0, ok1, ok2, ok3, ok4, ok5, ok6, ok7⟩ := id ok
  refine MIi_of (own := RX4) (L0 := [some (.ref (Z.2.1 (25 + 6 * w))), some (.int (nI h)), none, none, none]) (by decide) rfl (Nat.le_of_ble_eq_true rfl) ⟨rfl, rfl, trivial⟩ ?_
  intro Γ C E
  refine J_iconst C (v := nI 0) dX4_carryAll_0 (by decide) ?_
  refine J_istore_n C (L' := [some (.ref (Z.2.1 (25 + 6 * w))), some (.int (nI h)), some (.int (nI 0)), none, none]) dX4_carryAll_1 rfl (by decide) rfl rfl ?_
  refine J_iconst C (v := nI 0) dX4_carryAll_2 (by decide) ?_
  refine J_istore_n C (L' := [some (.ref (Z.2.1 (25 + 6 * w))), some (.int (nI h)), some (.int (nI 0)), some (.int (nI 0)), none]) dX4_carryAll_3 rfl (by decide) rfl rfl ?_
  have lp4 : ∀ (f : Nat) (i : Nat) (y : St), (i ≤ a.1 4) → (FRW w x y) → (ShR y w (tidA a h i)) → (a.1 4 - i < f) →  J Γ y 4 [some (.ref (Z.2.1 (25 + 6 * w))), some (.int (nI h)), some (.int (nI (cnt (fun m => decide (carry a (a.2 3 m) (a.2 2 m) h ≠ a.2 3 m)) i))), some (.int (nI i)), none] [] := by
    intro f
    induction f with
    | zero =>
      intro i y hi hyf hyr hf
      omega
    | succ f ih4 =>
      intro i y hi hyf hyr hf
      have e4 : (tidA a h i).1 4 = a.1 4 := rfl
      have e3 : (tidA a h i).1 3 = a.1 3 := rfl
      have es := tid_seat a h i
      have hcn := cnt_le (fun m => decide (carry a (a.2 3 m) (a.2 2 m) h ≠ a.2 3 m)) i
      refine J_iload_n C dX4_carryAll_4 rfl rfl ?_
      refine J_aload_n C dX4_carryAll_5 rfl rfl ?_
      refine G4n_members hw hyr C wd_7_15 dX4_carryAll_6 ?_
      refine J_icmp_ge_n C (tgt := 56) dX4_carryAll_9 (by decide) (by omega) (by omega) (fun c9 => ?_) (fun c9 => ?_)
      · skip
        refine J_iload_n C dX4_carryAll_56 rfl rfl ?_
        exact E dX4_carryAll_57 (⟨by rw [show i = a.1 4 by omega]; rfl, tid_end ((show i = a.1 4 by omega) ▸ hyr), hyf⟩)
      · skip
        have g6 := ok6 i (by omega)
        have hcl : carry a (a.2 3 i) (a.2 2 i) h < a.1 3 := carry_lt g6.2.1
        refine J_aload_n C dX4_carryAll_12 rfl rfl ?_
        refine J_iload_n C dX4_carryAll_13 rfl rfl ?_
        refine J_iload_n C dX4_carryAll_14 rfl rfl ?_
        refine J_callVi C (N := 10) (As := [.int (nI i), .int (nI h)]) (c_X4_seatBehind l Z _ hw hyr (tid_ok ok h i) i h (by omega) hh) cw_RX4_107 wd_17_15 wd_17_16 (at_shore hw) rfl rfl rfl (Nat.le_of_ble_eq_true rfl) rfl rfl (Nat.le_of_ble_eq_true rfl) (Nat.le_of_ble_eq_true rfl) dX4_carryAll_15 (fun r15 x15 hp15 => ?_)
        obtain ⟨hv15, rfl⟩ := hp15
        have hv15 : r15 = nI (carry a (a.2 3 i) (a.2 2 i) h) := hv15.trans (congrArg nI (tid_carry a h i))
        subst hv15
        refine J_istore C (L' := [some (.ref (Z.2.1 (25 + 6 * w))), some (.int (nI h)), some (.int (nI (cnt (fun m => decide (carry a (a.2 3 m) (a.2 2 m) h ≠ a.2 3 m)) i))), some (.int (nI i)), some (.int (nI (carry a (a.2 3 i) (a.2 2 i) h)))]) dX4_carryAll_18 (by decide) rfl rfl ?_
        refine J_iload_n C dX4_carryAll_20 rfl rfl ?_
        refine J_iload C dX4_carryAll_21 rfl ?_
        refine J_aload_n C dX4_carryAll_23 rfl rfl ?_
        refine G4_seats hw C wd_3_12 dX4_carryAll_24 ?_
        refine J_iload_n C dX4_carryAll_27 rfl rfl ?_
        refine L4n_seats hw hyr (tid_ok ok h i) C (by omega) dX4_carryAll_28 ?_
        refine J_icmp_eq_n C (tgt := 36) dX4_carryAll_29 (by decide) (by omega) (by omega) (fun c29 => ?_) (fun c29 => ?_)
        · skip
          refine J_iconst C (v := nI 0) dX4_carryAll_36 (by decide) ?_
          refine J_callNi C (As := [.int (nI 0)]) (c_X5_oneIf l Z _ _ (by decide)) cw_RX4_89 wd_18_20 rfl rfl (Nat.le_of_ble_eq_true rfl) rfl rfl (Nat.le_of_ble_eq_true rfl) (Nat.le_of_ble_eq_true rfl) dX4_carryAll_37 (fun r37 x37 hp37 => ?_)
          obtain ⟨rfl, rfl⟩ := hp37
          refine J_iadd C (v := nI (cnt (fun m => decide (carry a (a.2 3 m) (a.2 2 m) h ≠ a.2 3 m)) (i + 1))) dX4_carryAll_40 (by rw [cnt_no (by simp; omega)]; exact nI_add _ 0) ?_
          refine J_istore_n C (L' := [some (.ref (Z.2.1 (25 + 6 * w))), some (.int (nI h)), some (.int (nI (cnt (fun m => decide (carry a (a.2 3 m) (a.2 2 m) h ≠ a.2 3 m)) (i + 1)))), some (.int (nI i)), some (.int (nI (carry a (a.2 3 i) (a.2 2 i) h)))]) dX4_carryAll_41 rfl (by decide) rfl rfl ?_
          refine J_aload_n C dX4_carryAll_42 rfl rfl ?_
          refine G4_seats hw C wd_3_12 dX4_carryAll_43 ?_
          refine J_iload_n C dX4_carryAll_46 rfl rfl ?_
          refine J_iload C dX4_carryAll_47 rfl ?_
          refine S_seats hw C (by omega) dX4_carryAll_49 ?_
          refine J_iinc C (v := nI (i + 1)) (L' := [some (.ref (Z.2.1 (25 + 6 * w))), some (.int (nI h)), some (.int (nI (cnt (fun m => decide (carry a (a.2 3 m) (a.2 2 m) h ≠ a.2 3 m)) (i + 1)))), some (.int (nI (i + 1))), some (.int (nI (carry a (a.2 3 i) (a.2 2 i) h)))]) dX4_carryAll_50 rfl (nI_1 _) (by decide) rfl rfl ?_
          refine J_goto (tgt := 4) C dX4_carryAll_53 (by decide) ?_
          refine J_drop ?_ (ih4 (i + 1) (setA y (29 + 6 * w) (upd (y.2.1 (29 + 6 * w)) i (nI (carry a (a.2 3 i) (a.2 2 i) h)))) (by omega) (hyf.tr (FRW.arr (by omega) (by omega))) (tid_step hyr) (by omega))
          exact ⟨rfl, rfl, rfl, rfl, trivial⟩
        · skip
          refine J_iconst C (v := nI 1) dX4_carryAll_32 (by decide) ?_
          refine J_goto (tgt := 37) C dX4_carryAll_33 (by decide) ?_
          refine J_callNi C (As := [.int (nI 1)]) (c_X5_oneIf l Z _ _ (by decide)) cw_RX4_89 wd_18_20 rfl rfl (Nat.le_of_ble_eq_true rfl) rfl rfl (Nat.le_of_ble_eq_true rfl) (Nat.le_of_ble_eq_true rfl) dX4_carryAll_37 (fun r37 x37 hp37 => ?_)
          obtain ⟨rfl, rfl⟩ := hp37
          refine J_iadd C (v := nI (cnt (fun m => decide (carry a (a.2 3 m) (a.2 2 m) h ≠ a.2 3 m)) (i + 1))) dX4_carryAll_40 (by rw [cnt_yes (by simp; omega)]; exact nI_add _ 1) ?_
          refine J_istore_n C (L' := [some (.ref (Z.2.1 (25 + 6 * w))), some (.int (nI h)), some (.int (nI (cnt (fun m => decide (carry a (a.2 3 m) (a.2 2 m) h ≠ a.2 3 m)) (i + 1)))), some (.int (nI i)), some (.int (nI (carry a (a.2 3 i) (a.2 2 i) h)))]) dX4_carryAll_41 rfl (by decide) rfl rfl ?_
          refine J_aload_n C dX4_carryAll_42 rfl rfl ?_
          refine G4_seats hw C wd_3_12 dX4_carryAll_43 ?_
          refine J_iload_n C dX4_carryAll_46 rfl rfl ?_
          refine J_iload C dX4_carryAll_47 rfl ?_
          refine S_seats hw C (by omega) dX4_carryAll_49 ?_
          refine J_iinc C (v := nI (i + 1)) (L' := [some (.ref (Z.2.1 (25 + 6 * w))), some (.int (nI h)), some (.int (nI (cnt (fun m => decide (carry a (a.2 3 m) (a.2 2 m) h ≠ a.2 3 m)) (i + 1)))), some (.int (nI (i + 1))), some (.int (nI (carry a (a.2 3 i) (a.2 2 i) h)))]) dX4_carryAll_50 rfl (nI_1 _) (by decide) rfl rfl ?_
          refine J_goto (tgt := 4) C dX4_carryAll_53 (by decide) ?_
          refine J_drop ?_ (ih4 (i + 1) (setA y (29 + 6 * w) (upd (y.2.1 (29 + 6 * w)) i (nI (carry a (a.2 3 i) (a.2 2 i) h)))) (by omega) (hyf.tr (FRW.arr (by omega) (by omega))) (tid_step hyr) (by omega))
          exact ⟨rfl, rfl, rfl, rfl, trivial⟩
  refine J_drop ?_ (lp4 (a.1 4 + 1) 0 x (by omega) FRW.rf (tid0 hr) (by omega))
  exact ⟨rfl, rfl, rfl, rfl, trivial⟩
def rm_X5_tide : Room := ({ frames := 5, cells := 0, slots := 0, locals := 117 })
set_option maxRecDepth 20000 in
theorem c_X5_tide (l : Launch) (Z : EC) (x : St) (A : AB) (hA : AbsC x A) (hk : AOK A) (h : Int32) : MIi l Z (wC Z) yX5_tide cX5_tide 3 rm_X5_tide [.ref (Z.2.1 0), .int h] x (fun r x1 => r = R_tide A h ∧ AbsC x1 (N_tide A h)) := by
  obtain ⟨⟨hcur, htr, hne, hr⟩, hH, hR, hT, hF⟩ := id hA
  obtain ⟨ok, hkH, hkR, hkr⟩ := id hk
  obtain ⟨ok0, ok1, ok2, ok3, ok4, ok5, ok6, ok7⟩ := id ok
  refine MIi_of (own := RX5) (L0 := [some (.ref (Z.2.1 0)), some (.int h), none]) (by decide) rfl (Nat.le_of_ble_eq_true rfl) ⟨rfl, rfl, trivial⟩ ?_
  intro Γ C E
  refine J_aload_n C dX5_tide_0 rfl rfl ?_
  refine J_iload_n C dX5_tide_1 rfl rfl ?_
  refine J_callSz C (As := [.int h]) (c_X5_isDigit l Z _ _) cw_RX5_124 wd_14_10 rfl rfl (Nat.le_of_ble_eq_true rfl) rfl rfl (Nat.le_of_ble_eq_true rfl) (Nat.le_of_ble_eq_true rfl) dX5_tide_2 (fun b2 x2 hp2 => ?_)
  obtain ⟨rfl, rfl⟩ := hp2
  refine J_callVi C (q0 := 0) (ci := 5) (N := 8) (As := [.int (b2i (decide (dB h)))]) (c_X5_refusalUnless l Z _ A.1 hA.1 ok (decide (dB h))) cw_RX5_127 wd_15_9 wd_15_10 rfl rfl rfl rfl (Nat.le_of_ble_eq_true rfl) rfl rfl (Nat.le_of_ble_eq_true rfl) (Nat.le_of_ble_eq_true rfl) dX5_tide_5 (fun r5 x5 hp5 => ?_)
  rcases hp5 with ⟨h5, rfl, rfl⟩ | ⟨h5, k5, rfl, rfl⟩ | ⟨h5, k5, rfl, rfl⟩
  · skip
    refine J_istore_n C (L' := [some (.ref (Z.2.1 0)), some (.int h), some (.int (-2))]) dX5_tide_8 rfl (by decide) rfl rfl ?_
    refine J_iload_n C dX5_tide_9 rfl rfl ?_
    refine J_if_eq C (tgt := 17) dX5_tide_10 (by decide) (fun c10 => absurd c10 (by decide)) (fun c10 => ?_)
    refine J_iload_n C dX5_tide_13 rfl rfl ?_
    refine J_goto (tgt := 25) C dX5_tide_14 (by decide) ?_
    exact E dX5_tide_25 (⟨by rw [R_tide, if_neg (of_decide_eq_false h5)] <;> simp only [tnh], by rw [N_tide, if_neg (of_decide_eq_false h5)]; first | exact hA | (simp only [tnh]; exact FRW.cur hf22 hA hs22)⟩)
  · skip
    refine J_istore_n C (L' := [some (.ref (Z.2.1 0)), some (.int h), some (.int (-3))]) dX5_tide_8 rfl (by decide) rfl rfl ?_
    refine J_iload_n C dX5_tide_9 rfl rfl ?_
    refine J_if_eq C (tgt := 17) dX5_tide_10 (by decide) (fun c10 => absurd c10 (by decide)) (fun c10 => ?_)
    refine J_iload_n C dX5_tide_13 rfl rfl ?_
    refine J_goto (tgt := 25) C dX5_tide_14 (by decide) ?_
    exact E dX5_tide_25 (⟨by rw [R_tide, if_pos (of_decide_eq_true h5), if_pos k5] <;> simp only [tnh], by rw [N_tide, if_pos (of_decide_eq_true h5), if_pos k5]; first | exact hA | (simp only [tnh]; exact FRW.cur hf22 hA hs22)⟩)
  · skip
    obtain ⟨hn, h0, h9, rfl⟩ := rng_nat2 (A := 0) (B := 9) (of_decide_eq_true h5)
    have tnh := tn_nI (n := hn) (by omega)
    refine J_istore_n C (L' := [some (.ref (Z.2.1 0)), some (.int (nI hn)), some (.int (nI 0))]) dX5_tide_8 rfl (by decide) rfl rfl ?_
    refine J_iload_n C dX5_tide_9 rfl rfl ?_
    refine J_if_eq C (tgt := 17) dX5_tide_10 (by decide) (fun c10 => ?_) (fun c10 => absurd (by decide) c10)
    refine J_aload_n C dX5_tide_17 rfl rfl ?_
    refine G5_shore C wd_2_7 dX5_tide_18 ?_
    refine J_iload_n C dX5_tide_21 rfl rfl ?_
    refine J_callVi C (N := 10) (As := [.int (nI hn)]) (c_X4_carryAll l Z _ hcur hr ok _ (by omega)) cw_RX5_147 wd_18_16 wd_18_17 (at_shore hcur) rfl rfl rfl (Nat.le_of_ble_eq_true rfl) rfl rfl (Nat.le_of_ble_eq_true rfl) (Nat.le_of_ble_eq_true rfl) dX5_tide_22 (fun r22 x22 hp22 => ?_)
    obtain ⟨rfl, hs22, hf22⟩ := hp22
    exact E dX5_tide_25 (⟨by rw [R_tide, if_pos (of_decide_eq_true h5), if_neg k5] <;> simp only [tnh], by rw [N_tide, if_pos (of_decide_eq_true h5), if_neg k5]; first | exact hA | (simp only [tnh]; exact FRW.cur hf22 hA hs22)⟩)
def rm_X5_best : Room := ({ frames := 2, cells := 0, slots := 0, locals := 47 })
set_option maxRecDepth 20000 in
theorem c_X5_best (l : Launch) (Z : EC) (x : St) (A : AB) (hA : AbsC x A) (hk : AOK A) (w : Int32) : MIi l Z (wC Z) yX5_best cX5_best 7 rm_X5_best [.ref (Z.2.1 0), .int w] x (fun r x1 => r = R_best A w ∧ AbsC x1 A) := by
  obtain ⟨⟨hcur, htr, hne, hr⟩, hH, hR, hT, hF⟩ := id hA
  obtain ⟨ok, hkH, hkR, hkr⟩ := id hk
  obtain ⟨ok0, ok1, ok2, ok3, ok4, ok5, ok6, ok7⟩ := id ok
  refine MIi_of (own := RX5) (L0 := [some (.ref (Z.2.1 0)), some (.int w), none, none, none, none, none]) (by decide) rfl (Nat.le_of_ble_eq_true rfl) ⟨rfl, rfl, trivial⟩ ?_
  intro Γ C E
  refine J_aload_n C dX5_best_0 rfl rfl ?_
  refine J_iload_n C dX5_best_1 rfl rfl ?_
  refine J_iconst C (v := nI 0) dX5_best_2 (by decide) ?_
  refine J_iconst C (v := nI 1) dX5_best_3 (by decide) ?_
  refine J_callSz C (As := [.int w, .int (nI 0), .int (nI 1)]) (c_X5_isWithin l Z _ _ _ _ (0) (1) (by decide) (by decide)) cw_RX5_120 wd_4_23 rfl rfl (Nat.le_of_ble_eq_true rfl) rfl rfl (Nat.le_of_ble_eq_true rfl) (Nat.le_of_ble_eq_true rfl) dX5_best_4 (fun b4 x4 hp4 => ?_)
  obtain ⟨rfl, rfl⟩ := hp4
  refine J_callVi C (q0 := 0) (ci := 5) (N := 8) (As := [.int (b2i (decide ((0 : Int) ≤ w.toInt ∧ w.toInt ≤ (1 : Int))))]) (c_X5_refusalUnless l Z _ A.1 hA.1 ok (decide ((0 : Int) ≤ w.toInt ∧ w.toInt ≤ (1 : Int)))) cw_RX5_127 wd_15_9 wd_15_10 rfl rfl rfl rfl (Nat.le_of_ble_eq_true rfl) rfl rfl (Nat.le_of_ble_eq_true rfl) (Nat.le_of_ble_eq_true rfl) dX5_best_7 (fun r7 x7 hp7 => ?_)
  rcases hp7 with ⟨h7, rfl, rfl⟩ | ⟨h7, k7, rfl, rfl⟩ | ⟨h7, k7, rfl, rfl⟩
  · skip
    refine J_istore_n C (L' := [some (.ref (Z.2.1 0)), some (.int w), some (.int (-2)), none, none, none, none]) dX5_best_10 rfl (by decide) rfl rfl ?_
    refine J_iload_n C dX5_best_11 rfl rfl ?_
    refine J_if_eq C (tgt := 17) dX5_best_12 (by decide) (fun c12 => absurd c12 (by decide)) (fun c12 => ?_)
    refine J_iload_n C dX5_best_15 rfl rfl ?_
    exact E dX5_best_16 (⟨by rw [R_best, if_neg (of_decide_eq_false h7)], hA⟩)
  · skip
    refine J_istore_n C (L' := [some (.ref (Z.2.1 0)), some (.int w), some (.int (-3)), none, none, none, none]) dX5_best_10 rfl (by decide) rfl rfl ?_
    refine J_iload_n C dX5_best_11 rfl rfl ?_
    refine J_if_eq C (tgt := 17) dX5_best_12 (by decide) (fun c12 => absurd c12 (by decide)) (fun c12 => ?_)
    refine J_iload_n C dX5_best_15 rfl rfl ?_
    exact E dX5_best_16 (⟨by rw [R_best, if_pos (of_decide_eq_true h7), if_pos k7], hA⟩)
  · skip
    refine J_istore_n C (L' := [some (.ref (Z.2.1 0)), some (.int w), some (.int (nI 0)), none, none, none, none]) dX5_best_10 rfl (by decide) rfl rfl ?_
    refine J_iload_n C dX5_best_11 rfl rfl ?_
    refine J_if_eq C (tgt := 17) dX5_best_12 (by decide) (fun c12 => ?_) (fun c12 => absurd (by decide) c12)
    refine J_iconst C (v := nI 0) dX5_best_17 (by decide) ?_
    refine J_istore_n C (L' := [some (.ref (Z.2.1 0)), some (.int w), some (.int (nI 0)), some (.int (nI 0)), none, none, none]) dX5_best_18 rfl (by decide) rfl rfl ?_
    refine J_iconst C (v := (-1)) dX5_best_19 (by decide) ?_
    refine J_istore C (L' := [some (.ref (Z.2.1 0)), some (.int w), some (.int (nI 0)), some (.int (nI 0)), some (.int (-1)), none, none]) dX5_best_20 (by decide) rfl rfl ?_
    refine J_iconst C (v := nI 0) dX5_best_22 (by decide) ?_
    refine J_istore C (L' := [some (.ref (Z.2.1 0)), some (.int w), some (.int (nI 0)), some (.int (nI 0)), some (.int (-1)), some (.int (nI 0)), none]) dX5_best_23 (by decide) rfl rfl ?_
    have lp25 : ∀ (f : Nat) (v : Nat), (v ≤ 10) → (10 - v < f) →  J Γ x 25 [some (.ref (Z.2.1 0)), some (.int w), some (.int (nI 0)), some (.int (nI ((bestF A.1 v).1))), some (.int (nI (bestF A.1 v).2 + (-1))), some (.int (nI v)), none] [] := by
      intro f
      induction f with
      | zero =>
        intro v hv hf
        omega
      | succ f ih25 =>
        intro v hv hf
        have hbl := bestF_le A.1 v
        have hpp := pop_le (won A.1 (fri A.1 v))
        refine J_iload C dX5_best_25 rfl ?_
        refine J_bipush C (v := nI 9) dX5_best_27 (by decide) ?_
        refine J_icmp_gt_n C (tgt := 73) dX5_best_29 (by decide) (by omega) (by omega) (fun c29 => ?_) (fun c29 => ?_)
        · skip
          refine J_iload_n C dX5_best_73 rfl rfl ?_
          refine J_if_ne C (tgt := 81) dX5_best_74 (by decide) (fun c74 => ?_) (fun c74 => ?_)
          · skip
            refine J_iload C dX5_best_81 rfl ?_
            exact E dX5_best_83 (⟨by rw [R_best, if_pos (of_decide_eq_true h7), if_neg k7, if_neg (show ¬ w = nI 0 from c74), show v = 10 by omega, m1_nI (bestF_pos _ _ (by decide))], hA⟩)
          · skip
            refine J_iload_n C dX5_best_77 rfl rfl ?_
            refine J_goto (tgt := 83) C dX5_best_78 (by decide) ?_
            exact E dX5_best_83 (⟨by rw [R_best, if_pos (of_decide_eq_true h7), if_neg k7, if_pos (show w = nI 0 from c74), show v = 10 by omega], hA⟩)
        · skip
          refine J_aload_n C dX5_best_32 rfl rfl ?_
          refine G5_shore C wd_2_7 dX5_best_33 ?_
          refine J_aload_n C dX5_best_36 rfl rfl ?_
          refine G5_shore C wd_2_7 dX5_best_37 ?_
          refine J_iload C dX5_best_40 rfl ?_
          refine J_callVi C (N := 10) (As := [.int (nI v)]) (c_X4_friendsOf l Z _ hcur hr ok _ (by omega)) cw_RX5_150 wd_19_11 wd_19_12 (at_shore hcur) rfl rfl rfl (Nat.le_of_ble_eq_true rfl) rfl rfl (Nat.le_of_ble_eq_true rfl) (Nat.le_of_ble_eq_true rfl) dX5_best_42 (fun r42 x42 hp42 => ?_)
          obtain ⟨rfl, rfl⟩ := hp42
          refine J_callVi C (N := 10) (As := [.int (nI (fri A.1 v))]) (c_X4_poolsWon l Z _ hcur hr ok _ (fri64 ok v)) cw_RX5_153 wd_20_7 wd_20_8 (at_shore hcur) rfl rfl rfl (Nat.le_of_ble_eq_true rfl) rfl rfl (Nat.le_of_ble_eq_true rfl) (Nat.le_of_ble_eq_true rfl) dX5_best_45 (fun r45 x45 hp45 => ?_)
          obtain ⟨rfl, rfl⟩ := hp45
          refine J_callSi C (As := [.int (nI (won A.1 (fri A.1 v)))]) (c_J6_bitCount_0f7a4 l Z _ _ (won64 ok _)) cw_RX5_195 wd_11_21 rfl rfl (Nat.le_of_ble_eq_true rfl) rfl rfl (Nat.le_of_ble_eq_true rfl) (Nat.le_of_ble_eq_true rfl) dX5_best_48 (fun r48 x48 hp48 => ?_)
          obtain ⟨rfl, rfl⟩ := hp48
          refine J_istore C (L' := [some (.ref (Z.2.1 0)), some (.int w), some (.int (nI 0)), some (.int (nI ((bestF A.1 v).1))), some (.int (nI (bestF A.1 v).2 + (-1))), some (.int (nI v)), some (.int (nI (pop (won A.1 (fri A.1 v)))))]) dX5_best_51 (by decide) rfl rfl ?_
          refine J_iload C dX5_best_53 rfl ?_
          refine J_iload C dX5_best_55 rfl ?_
          refine J_icmp_le C (tgt := 67) dX5_best_57 (by decide) (fun c57 => ?_) (fun c57 => ?_)
          · skip
            refine J_iinc C (v := nI (v + 1)) (L' := [some (.ref (Z.2.1 0)), some (.int w), some (.int (nI 0)), some (.int (nI ((bestF A.1 v).1))), some (.int (nI (bestF A.1 v).2 + (-1))), some (.int (nI (v + 1))), some (.int (nI (pop (won A.1 (fri A.1 v)))))]) dX5_best_67 rfl (nI_1 _) (by decide) rfl rfl ?_
            refine J_goto (tgt := 25) C dX5_best_70 (by decide) ?_
            refine J_drop ?_ (ih25 (v + 1) (by omega) (by omega))
            exact ⟨rfl, rfl, rfl, by rw [bestF_no (by rw [le_i, toI_m1 (by omega), nI_i (by omega)] at c57; omega)], by rw [bestF_no (by rw [le_i, toI_m1 (by omega), nI_i (by omega)] at c57; omega)], rfl, trivial⟩
          · skip
            refine J_iload C dX5_best_60 rfl ?_
            refine J_istore_n C (L' := [some (.ref (Z.2.1 0)), some (.int w), some (.int (nI 0)), some (.int (nI v)), some (.int (nI (bestF A.1 v).2 + (-1))), some (.int (nI v)), some (.int (nI (pop (won A.1 (fri A.1 v)))))]) dX5_best_62 rfl (by decide) rfl rfl ?_
            refine J_iload C dX5_best_63 rfl ?_
            refine J_istore C (L' := [some (.ref (Z.2.1 0)), some (.int w), some (.int (nI 0)), some (.int (nI v)), some (.int (nI (pop (won A.1 (fri A.1 v))))), some (.int (nI v)), some (.int (nI (pop (won A.1 (fri A.1 v)))))]) dX5_best_65 (by decide) rfl rfl ?_
            refine J_iinc C (v := nI (v + 1)) (L' := [some (.ref (Z.2.1 0)), some (.int w), some (.int (nI 0)), some (.int (nI v)), some (.int (nI (pop (won A.1 (fri A.1 v))))), some (.int (nI (v + 1))), some (.int (nI (pop (won A.1 (fri A.1 v)))))]) dX5_best_67 rfl (nI_1 _) (by decide) rfl rfl ?_
            refine J_goto (tgt := 25) C dX5_best_70 (by decide) ?_
            refine J_drop ?_ (ih25 (v + 1) (by omega) (by omega))
            exact ⟨rfl, rfl, rfl, by rw [bestF_yes (by rw [le_i, toI_m1 (by omega), nI_i (by omega)] at c57; omega)], by rw [bestF_yes (by rw [le_i, toI_m1 (by omega), nI_i (by omega)] at c57; omega), pk_m1], rfl, trivial⟩
    refine J_drop ?_ (lp25 (10 + 1) 0 (by omega) (by omega))
    exact ⟨rfl, rfl, rfl, rfl, best0 _, rfl, trivial⟩
def rm_X5_fewestToTurn : Room := ({ frames := 3, cells := 0, slots := 0, locals := 68 })
set_option maxRecDepth 20000 in
theorem c_X5_fewestToTurn (l : Launch) (Z : EC) (x : St) (a : SA) (hs : CS x a) (ok : SOK a) (f0 : Nat) (hf0 : f0 < 64) : MIi l Z (wC Z) yX5_fewestToTurn cX5_fewestToTurn 4 rm_X5_fewestToTurn [.ref (Z.2.1 0), .int (nI f0)] x (fun r x1 => r = less1 (turnF a f0 (2 ^ a.1 4)) ∧ x = x1) := by
  obtain ⟨ok0, ok1, ok2, ok3, ok4, ok5, ok6, ok7⟩ := id ok
  have hpw := pow6 _ ok4
  have hpz := Nat.zero_le (2 ^ a.1 4)
  refine MIi_of (own := RX5) (L0 := [some (.ref (Z.2.1 0)), some (.int (nI f0)), none, none]) (by decide) rfl (Nat.le_of_ble_eq_true rfl) ⟨rfl, rfl, trivial⟩ ?_
  intro Γ C E
  refine J_bipush C (v := (-9)) dX5_fewestToTurn_0 (by decide) ?_
  refine J_istore_n C (L' := [some (.ref (Z.2.1 0)), some (.int (nI f0)), some (.int (-9)), none]) dX5_fewestToTurn_2 rfl (by decide) rfl rfl ?_
  refine J_iconst C (v := nI 0) dX5_fewestToTurn_3 (by decide) ?_
  refine J_istore_n C (L' := [some (.ref (Z.2.1 0)), some (.int (nI f0)), some (.int (-9)), some (.int (nI 0))]) dX5_fewestToTurn_4 rfl (by decide) rfl rfl ?_
  have lp5 : ∀ (f : Nat) (n : Nat) (t : Int32), (n ≤ 2 ^ a.1 4) → (t = less1 (turnF a f0 n)) → (2 ^ a.1 4 - n < f) →  J Γ x 5 [some (.ref (Z.2.1 0)), some (.int (nI f0)), some (.int t), some (.int (nI n))] [] := by
    intro f
    induction f with
    | zero =>
      intro n t hn ht hf
      omega
    | succ f ih5 =>
      intro n t hn ht hf
      have htl := turnF_le a f0 n
      refine J_iload_n C dX5_fewestToTurn_5 rfl rfl ?_
      refine J_iconst C (v := nI 1) dX5_fewestToTurn_6 (by decide) ?_
      refine J_aload_n C dX5_fewestToTurn_7 rfl rfl ?_
      refine G5_shore C wd_2_7 dX5_fewestToTurn_8 ?_
      refine G4n_members hs.1 hs.2.2.2 C wd_4_18 dX5_fewestToTurn_11 ?_
      refine J_ishl C (v := nI (2 ^ a.1 4)) dX5_fewestToTurn_14 (sh1 _ (by omega)) ?_
      refine J_icmp_ge_n C (tgt := 62) dX5_fewestToTurn_15 (by decide) (by omega) (by omega) (fun c15 => ?_) (fun c15 => ?_)
      · skip
        refine J_iload_n C dX5_fewestToTurn_62 rfl rfl ?_
        exact E dX5_fewestToTurn_63 (⟨by rw [ht, show n = 2 ^ a.1 4 by omega], rfl⟩)
      · skip
        refine J_iload_n C dX5_fewestToTurn_18 rfl rfl ?_
        refine J_iload_n C dX5_fewestToTurn_19 rfl rfl ?_
        refine J_iand C (v := nI (n &&& f0)) dX5_fewestToTurn_20 (fa_and _ _) ?_
        have hand : n &&& f0 ≤ n := Nat.and_le_left
        refine J_if_ne_n C (tgt := 56) dX5_fewestToTurn_21 (by decide) (by omega) (fun c21 => ?_) (fun c21 => ?_)
        · skip
          refine J_iinc C (v := nI (n + 1)) (L' := [some (.ref (Z.2.1 0)), some (.int (nI f0)), some (.int t), some (.int (nI (n + 1)))]) dX5_fewestToTurn_56 rfl (nI_1 _) (by decide) rfl rfl ?_
          refine J_goto (tgt := 5) C dX5_fewestToTurn_59 (by decide) ?_
          refine J_drop ?_ (ih5 (n + 1) t (by omega) (by rw [ht]; congr 1; show _ = (if _ then _ else _); rw [if_neg c21]) (by omega))
          exact ⟨rfl, rfl, rfl, rfl, trivial⟩
        · skip
          refine J_aload_n C dX5_fewestToTurn_24 rfl rfl ?_
          refine G5_shore C wd_2_7 dX5_fewestToTurn_25 ?_
          refine J_iload_n C dX5_fewestToTurn_28 rfl rfl ?_
          refine J_iload_n C dX5_fewestToTurn_29 rfl rfl ?_
          refine J_ior C (v := nI (n ||| f0)) dX5_fewestToTurn_30 (fa_or _ _) ?_
          refine J_callVz C (N := 10) (As := [.int (nI (n ||| f0))]) (c_X4_isLawBy l Z _ hs.1 hs.2.2.2 ok _ (or64 (by omega) hf0)) cw_RX5_156 wd_20_23 wd_21_0 (at_shore hs.1) rfl rfl rfl (Nat.le_of_ble_eq_true rfl) rfl rfl (Nat.le_of_ble_eq_true rfl) (Nat.le_of_ble_eq_true rfl) dX5_fewestToTurn_31 (fun b31 x31 hp31 => ?_)
          obtain ⟨rfl, rfl⟩ := hp31
          refine J_if_eq_b C (tgt := 56) dX5_fewestToTurn_34 (by decide) (fun c34 => ?_) (fun c34 => ?_)
          · skip
            refine J_iinc C (v := nI (n + 1)) (L' := [some (.ref (Z.2.1 0)), some (.int (nI f0)), some (.int t), some (.int (nI (n + 1)))]) dX5_fewestToTurn_56 rfl (nI_1 _) (by decide) rfl rfl ?_
            refine J_goto (tgt := 5) C dX5_fewestToTurn_59 (by decide) ?_
            refine J_drop ?_ (ih5 (n + 1) t (by omega) (by rw [ht]; congr 1; show _ = (if _ then (if _ then _ else _) else _); rw [if_pos c21, if_neg (by rw [c34]; decide)]) (by omega))
            exact ⟨rfl, rfl, rfl, rfl, trivial⟩
          · skip
            refine J_iload_n C dX5_fewestToTurn_37 rfl rfl ?_
            refine J_bipush C (v := (-9)) dX5_fewestToTurn_38 (by decide) ?_
            refine J_icmp_eq C (tgt := 54) dX5_fewestToTurn_40 (by decide) (fun c40 => ?_) (fun c40 => ?_)
            · skip
              refine J_iload_n C dX5_fewestToTurn_54 rfl rfl ?_
              refine J_istore_n C (L' := [some (.ref (Z.2.1 0)), some (.int (nI f0)), some (.int (nI n)), some (.int (nI n))]) dX5_fewestToTurn_55 rfl (by decide) rfl rfl ?_
              refine J_iinc C (v := nI (n + 1)) (L' := [some (.ref (Z.2.1 0)), some (.int (nI f0)), some (.int (nI n)), some (.int (nI (n + 1)))]) dX5_fewestToTurn_56 rfl (nI_1 _) (by decide) rfl rfl ?_
              refine J_goto (tgt := 5) C dX5_fewestToTurn_59 (by decide) ?_
              refine J_drop ?_ (ih5 (n + 1) (nI n) (by omega) (turn_a c21 c34 (less1_eq (ht.symm.trans c40))) (by omega))
              exact ⟨rfl, rfl, rfl, rfl, trivial⟩
            · skip
              have htn : turnF a f0 n ≠ 0 := fun e => c40 (by rw [ht, e]; rfl)
              have ht2 : t = nI (turnF a f0 n - 1) := ht.trans (if_neg htn)
              subst ht2
              have hp1 := pop_le n
              have hp2 := pop_le (turnF a f0 n - 1)
              refine J_iload_n C dX5_fewestToTurn_43 rfl rfl ?_
              refine J_callSi C (As := [.int (nI n)]) (c_J6_bitCount_0f7a4 l Z _ _ (show n < 64 by omega)) cw_RX5_195 wd_11_21 rfl rfl (Nat.le_of_ble_eq_true rfl) rfl rfl (Nat.le_of_ble_eq_true rfl) (Nat.le_of_ble_eq_true rfl) dX5_fewestToTurn_44 (fun r44 x44 hp44 => ?_)
              obtain ⟨rfl, rfl⟩ := hp44
              refine J_iload_n C dX5_fewestToTurn_47 rfl rfl ?_
              refine J_callSi C (As := [.int (nI (turnF a f0 n - 1))]) (c_J6_bitCount_0f7a4 l Z _ _ (show turnF a f0 n - 1 < 64 by omega)) cw_RX5_195 wd_11_21 rfl rfl (Nat.le_of_ble_eq_true rfl) rfl rfl (Nat.le_of_ble_eq_true rfl) (Nat.le_of_ble_eq_true rfl) dX5_fewestToTurn_48 (fun r48 x48 hp48 => ?_)
              obtain ⟨rfl, rfl⟩ := hp48
              refine J_icmp_ge_n C (tgt := 56) dX5_fewestToTurn_51 (by decide) (by omega) (by omega) (fun c51 => ?_) (fun c51 => ?_)
              · skip
                refine J_iinc C (v := nI (n + 1)) (L' := [some (.ref (Z.2.1 0)), some (.int (nI f0)), some (.int (nI (turnF a f0 n - 1))), some (.int (nI (n + 1)))]) dX5_fewestToTurn_56 rfl (nI_1 _) (by decide) rfl rfl ?_
                refine J_goto (tgt := 5) C dX5_fewestToTurn_59 (by decide) ?_
                refine J_drop ?_ (ih5 (n + 1) (nI (turnF a f0 n - 1)) (by omega) (turn_b c21 c34 (by omega) (by omega)) (by omega))
                exact ⟨rfl, rfl, rfl, rfl, trivial⟩
              · skip
                refine J_iload_n C dX5_fewestToTurn_54 rfl rfl ?_
                refine J_istore_n C (L' := [some (.ref (Z.2.1 0)), some (.int (nI f0)), some (.int (nI n)), some (.int (nI n))]) dX5_fewestToTurn_55 rfl (by decide) rfl rfl ?_
                refine J_iinc C (v := nI (n + 1)) (L' := [some (.ref (Z.2.1 0)), some (.int (nI f0)), some (.int (nI n)), some (.int (nI (n + 1)))]) dX5_fewestToTurn_56 rfl (nI_1 _) (by decide) rfl rfl ?_
                refine J_goto (tgt := 5) C dX5_fewestToTurn_59 (by decide) ?_
                refine J_drop ?_ (ih5 (n + 1) (nI n) (by omega) (turn_c c21 c34 (by omega) (by omega)) (by omega))
                exact ⟨rfl, rfl, rfl, rfl, trivial⟩
  refine J_drop ?_ (lp5 (2 ^ a.1 4 + 1) 0 (-9) (Nat.zero_le _) rfl (by omega))
  exact ⟨rfl, rfl, rfl, rfl, trivial⟩
def rm_X5_turn : Room := ({ frames := 4, cells := 0, slots := 0, locals := 91 })
set_option maxRecDepth 20000 in
theorem c_X5_turn (l : Launch) (Z : EC) (x : St) (A : AB) (hA : AbsC x A) (hk : AOK A) (v : Int32) : MIi l Z (wC Z) yX5_turn cX5_turn 3 rm_X5_turn [.ref (Z.2.1 0), .int v] x (fun r x1 => r = R_turn A v ∧ AbsC x1 A) := by
  obtain ⟨⟨hcur, htr, hne, hr⟩, hH, hR, hT, hF⟩ := id hA
  obtain ⟨ok, hkH, hkR, hkr⟩ := id hk
  obtain ⟨ok0, ok1, ok2, ok3, ok4, ok5, ok6, ok7⟩ := id ok
  refine MIi_of (own := RX5) (L0 := [some (.ref (Z.2.1 0)), some (.int v), none]) (by decide) rfl (Nat.le_of_ble_eq_true rfl) ⟨rfl, rfl, trivial⟩ ?_
  intro Γ C E
  refine J_aload_n C dX5_turn_0 rfl rfl ?_
  refine J_iload_n C dX5_turn_1 rfl rfl ?_
  refine J_callSz C (As := [.int v]) (c_X5_isDigit l Z _ _) cw_RX5_124 wd_14_10 rfl rfl (Nat.le_of_ble_eq_true rfl) rfl rfl (Nat.le_of_ble_eq_true rfl) (Nat.le_of_ble_eq_true rfl) dX5_turn_2 (fun b2 x2 hp2 => ?_)
  obtain ⟨rfl, rfl⟩ := hp2
  refine J_callVi C (q0 := 0) (ci := 5) (N := 8) (As := [.int (b2i (decide (dB v)))]) (c_X5_refusalUnless l Z _ A.1 hA.1 ok (decide (dB v))) cw_RX5_127 wd_15_9 wd_15_10 rfl rfl rfl rfl (Nat.le_of_ble_eq_true rfl) rfl rfl (Nat.le_of_ble_eq_true rfl) (Nat.le_of_ble_eq_true rfl) dX5_turn_5 (fun r5 x5 hp5 => ?_)
  rcases hp5 with ⟨h5, rfl, rfl⟩ | ⟨h5, k5, rfl, rfl⟩ | ⟨h5, k5, rfl, rfl⟩
  · skip
    refine J_istore_n C (L' := [some (.ref (Z.2.1 0)), some (.int v), some (.int (-2))]) dX5_turn_8 rfl (by decide) rfl rfl ?_
    refine J_iload_n C dX5_turn_9 rfl rfl ?_
    refine J_if_eq C (tgt := 17) dX5_turn_10 (by decide) (fun c10 => absurd c10 (by decide)) (fun c10 => ?_)
    refine J_iload_n C dX5_turn_13 rfl rfl ?_
    refine J_goto (tgt := 29) C dX5_turn_14 (by decide) ?_
    exact E dX5_turn_29 (⟨by rw [R_turn, if_neg (of_decide_eq_false h5)] <;> simp only [tnv], hA⟩)
  · skip
    refine J_istore_n C (L' := [some (.ref (Z.2.1 0)), some (.int v), some (.int (-3))]) dX5_turn_8 rfl (by decide) rfl rfl ?_
    refine J_iload_n C dX5_turn_9 rfl rfl ?_
    refine J_if_eq C (tgt := 17) dX5_turn_10 (by decide) (fun c10 => absurd c10 (by decide)) (fun c10 => ?_)
    refine J_iload_n C dX5_turn_13 rfl rfl ?_
    refine J_goto (tgt := 29) C dX5_turn_14 (by decide) ?_
    exact E dX5_turn_29 (⟨by rw [R_turn, if_pos (of_decide_eq_true h5), if_pos k5] <;> simp only [tnv], hA⟩)
  · skip
    obtain ⟨vn, v0, v9, rfl⟩ := rng_nat2 (A := 0) (B := 9) (of_decide_eq_true h5)
    have tnv := tn_nI (n := vn) (by omega)
    refine J_istore_n C (L' := [some (.ref (Z.2.1 0)), some (.int (nI vn)), some (.int (nI 0))]) dX5_turn_8 rfl (by decide) rfl rfl ?_
    refine J_iload_n C dX5_turn_9 rfl rfl ?_
    refine J_if_eq C (tgt := 17) dX5_turn_10 (by decide) (fun c10 => ?_) (fun c10 => absurd (by decide) c10)
    refine J_aload_n C dX5_turn_17 rfl rfl ?_
    refine J_aload_n C dX5_turn_18 rfl rfl ?_
    refine G5_shore C wd_2_7 dX5_turn_19 ?_
    refine J_iload_n C dX5_turn_22 rfl rfl ?_
    refine J_callVi C (N := 10) (As := [.int (nI vn)]) (c_X4_friendsOf l Z _ hcur hr ok _ (by omega)) cw_RX5_150 wd_19_11 wd_19_12 (at_shore hcur) rfl rfl rfl (Nat.le_of_ble_eq_true rfl) rfl rfl (Nat.le_of_ble_eq_true rfl) (Nat.le_of_ble_eq_true rfl) dX5_turn_23 (fun r23 x23 hp23 => ?_)
    obtain ⟨rfl, rfl⟩ := hp23
    refine J_callVi C (q0 := 0) (ci := 5) (N := 8) (As := [.int (nI (fri A.1 vn))]) (c_X5_fewestToTurn l Z _ A.1 hA.1 ok _ (fri64 ok vn)) cw_RX5_200 wd_24_12 wd_24_13 rfl rfl rfl rfl (Nat.le_of_ble_eq_true rfl) rfl rfl (Nat.le_of_ble_eq_true rfl) (Nat.le_of_ble_eq_true rfl) dX5_turn_26 (fun r26 x26 hp26 => ?_)
    obtain ⟨rfl, rfl⟩ := hp26
    exact E dX5_turn_29 (⟨by rw [R_turn, if_pos (of_decide_eq_true h5), if_neg k5] <;> simp only [tnv], hA⟩)
