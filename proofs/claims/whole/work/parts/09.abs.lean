/-! the whole state, by which both sides are held: shore; sheets (kind+1 or 0, length, cells); readings (how many; who, when, where); trace, fault -/
abbrev AB : Type := SA × ((Nat → Nat) × (Nat → Nat) × (Nat → Nat → Int32)) × (Nat × (Nat → Nat → Nat)) × (Int32 × Int32)
def tn (q : Int32) : Nat := q.toInt.toNat
theorem tn_nI {n : Nat} (h : n < 2147483648) : tn (nI n) = n := by unfold tn; rw [nI_toInt h]; rfl
abbrev pB (a : SA) (q : Int32) : Prop := 0 ≤ q.toInt ∧ q.toInt < (a.1 3 : Int)
abbrev mB (a : SA) (q : Int32) : Prop := 0 ≤ q.toInt ∧ q.toInt < (a.1 4 : Int)
abbrev dB (v : Int32) : Prop := 0 ≤ v.toInt ∧ v.toInt ≤ 9
abbrev hB (v : Int32) : Prop := 0 ≤ v.toInt ∧ v.toInt ≤ 3
abbrev lB (v : Int32) : Prop := 0 ≤ v.toInt ∧ v.toInt ≤ 2
abbrev inB (v : Int32) (a b : Int) : Prop := a ≤ v.toInt ∧ v.toInt ≤ b
abbrev yB (v : Int32) : Prop := (0 ≤ v.toInt ∧ v.toInt ≤ 3) ∨ (10 ≤ v.toInt ∧ v.toInt ≤ 15) ∨ (20 ≤ v.toInt ∧ v.toInt ≤ 29)
theorem rng_nat {q : Int32} {P : Nat} (h : 0 ≤ q.toInt ∧ q.toInt < (P : Int)) : ∃ n : Nat, n < P ∧ q = nI n := by
  have h2 := Int32.toInt_lt q
  refine ⟨q.toInt.toNat, by omega, ?_⟩
  apply Int32.toInt_inj.mp
  rw [nI_toInt (by omega)]
  omega
theorem rng_nat2 {q : Int32} {A B : Nat} (h : (A : Int) ≤ q.toInt ∧ q.toInt ≤ (B : Int)) : ∃ n : Nat, A ≤ n ∧ n ≤ B ∧ q = nI n := by
  have h2 := Int32.toInt_lt q
  refine ⟨q.toInt.toNat, by omega, by omega, ?_⟩
  apply Int32.toInt_inj.mp
  rw [nI_toInt (by omega)]
  omega
theorem nI_i {n : Nat} (h : n < 2147483648) : (nI n).toInt = (n : Int) := nI_toInt h
theorem subI1 {n : Nat} (h : n < 1000) : (nI n - nI 1).toInt = (n : Int) - 1 := pk_sub_toInt (a := n) (b := 1) (by omega) (by omega)
def CS (x : St) (a : SA) : Prop := x.2.2.1 < 2 ∧ x.2.2.2.1 < 2 ∧ x.2.2.1 ≠ x.2.2.2.1 ∧ ShR x x.2.2.1 a
def CH (x : St) (H : (Nat → Nat) × (Nat → Nat) × (Nat → Nat → Int32)) : Prop := ∀ k, k < 4 → x.1 (2 + 3 * k) = b2i (decide (H.1 k ≠ 0)) ∧ (H.1 k ≠ 0 → x.1 (3 + 3 * k) = nI (H.1 k - 1) ∧ x.1 (4 + 3 * k) = nI (H.2.1 k) ∧ ∀ j, j < H.2.1 k → x.2.1 (6 + k) j = H.2.2 k j)
def CR (x : St) (R : Nat × (Nat → Nat → Nat)) : Prop := x.1 17 = nI R.1 ∧ ∀ j, j < R.1 → x.2.1 12 j = nI (R.2 0 j) ∧ x.2.1 13 j = nI (R.2 1 j) ∧ x.2.1 14 j = nI (R.2 2 j)
def AbsC (x : St) (A : AB) : Prop := CS x A.1 ∧ CH x A.2.1 ∧ CR x A.2.2.1 ∧ x.1 0 = A.2.2.2.1 ∧ x.1 1 = A.2.2.2.2
def MH (x : Mt) (H : (Nat → Nat) × (Nat → Nat) × (Nat → Nat → Int32)) : Prop := ∀ k, k < 4 → x.2 2 k = (if H.1 k = 0 then (-9) else nI (H.1 k - 1)) ∧ (H.1 k ≠ 0 → x.2 3 k = nI (H.2.1 k) ∧ ∀ j, j < H.2.1 k → x.2 4 (60 * k + j) = H.2.2 k j)
def MR (x : Mt) (R : Nat × (Nat → Nat → Nat)) : Prop := x.1 29 = nI R.1 ∧ ∀ j, j < R.1 → x.2 30 j = nI (R.2 0 j) ∧ x.2 31 j = nI (R.2 1 j) ∧ x.2 32 j = nI (R.2 2 j)
def AbsM (x : Mt) (A : AB) : Prop := MdR x A.1 ∧ MH x A.2.1 ∧ MR x A.2.2.1 ∧ x.1 1 = A.2.2.2.1 ∧ x.1 0 = A.2.2.2.2
def AOK (A : AB) : Prop := SOK A.1 ∧ (∀ k, k < 4 → A.2.1.1 k ≤ 3 ∧ A.2.1.2.1 k ≤ 60) ∧ A.2.2.1.1 ≤ 8 ∧ ∀ j, j < A.2.2.1.1 → A.2.2.1.2 0 j < A.1.1 4 ∧ A.2.2.1.2 1 j ≤ 9 ∧ A.2.2.1.2 2 j < A.1.1 3
-- steps of the state
def up1 (f : Nat → Nat) (i v : Nat) : Nat → Nat := fun j => if j = i then v else f j
def up2 (g : Nat → Nat → Nat) (t i v : Nat) : Nat → Nat → Nat := fun u j => if u = t ∧ j = i then v else g u j
def AsI (A : AB) (i v : Nat) : AB := ((up1 A.1.1 i v, A.1.2), A.2)
def AsA (A : AB) (t i v : Nat) : AB := ((A.1.1, up2 A.1.2 t i v), A.2)
def AsF (A : AB) (v : Int32) : AB := (A.1, A.2.1, A.2.2.1, A.2.2.2.1, v)
def AsT (A : AB) (v : Int32) : AB := (A.1, A.2.1, A.2.2.1, v, A.2.2.2.2)
def AsR (A : AB) (R : Nat × (Nat → Nat → Nat)) : AB := (A.1, A.2.1, R, A.2.2.2)
def AsH (A : AB) (H : (Nat → Nat) × (Nat → Nat) × (Nat → Nat → Int32)) : AB := (A.1, H, A.2.2)
def AsS (A : AB) (a : SA) : AB := (a, A.2)
theorem upd_ne {f : Nat → Int32} {k j : Nat} {v : Int32} (h : j ≠ k) : upd f k v j = f j := if_neg h
theorem upd_eq {f : Nat → Int32} {k : Nat} {v : Int32} : upd f k v k = v := if_pos rfl
theorem vup_ne {f : Nat → Nat → Int32} {k j : Nat} {v : Nat → Int32} (h : j ≠ k) : va_up f k v j = f j := if_neg h
theorem vup_eq {f : Nat → Nat → Int32} {k : Nat} {v : Nat → Int32} : va_up f k v k = v := if_pos rfl
/-- a change of an int that no shore holds -/
theorem ShR.int {x : St} {w i : Nat} {v : Int32} {a : SA} (h : ShR x w a) (hi : i < 21 + 5 * w ∨ 26 + 5 * w ≤ i) : ShR (setI x i v) w a := by
  obtain ⟨h0, h1, h2, h3, h4, h5, h6⟩ := h
  refine ⟨?_, ?_, ?_, ?_, ?_, h5, h6⟩ <;> (show upd x.1 i v _ = _; rw [upd_ne (by omega)]; assumption)
theorem ShR.arr {x : St} {w i : Nat} {f : Nat → Int32} {a : SA} (h : ShR x w a) (hi : i < 26 + 6 * w ∨ 31 + 6 * w ≤ i) : ShR (setA x i f) w a := by
  obtain ⟨h0, h1, h2, h3, h4, h5, h6⟩ := h
  refine ⟨h0, h1, h2, h3, h4, fun j hj => ?_, fun j hj => ?_⟩
  · obtain ⟨g1, g2⟩ := h5 j hj
    refine ⟨?_, ?_⟩ <;> (show va_up x.2.1 i f _ j = _; rw [vup_ne (by omega)]; assumption)
  · obtain ⟨g1, g2, g3⟩ := h6 j hj
    refine ⟨?_, ?_, ?_⟩ <;> (show va_up x.2.1 i f _ j = _; rw [vup_ne (by omega)]; assumption)
theorem CH.int {x : St} {i : Nat} {v : Int32} {H : (Nat → Nat) × (Nat → Nat) × (Nat → Nat → Int32)} (h : CH x H) (hi : i < 2 ∨ 14 ≤ i) : CH (setI x i v) H := by
  intro k hk
  obtain ⟨h1, h2⟩ := h k hk
  refine ⟨?_, fun hn => ?_⟩
  · show upd x.1 i v _ = _; rw [upd_ne (by omega)]; exact h1
  · obtain ⟨g1, g2, g3⟩ := h2 hn
    refine ⟨?_, ?_, g3⟩ <;> (show upd x.1 i v _ = _; rw [upd_ne (by omega)]; assumption)
theorem CH.arr {x : St} {i : Nat} {f : Nat → Int32} {H : (Nat → Nat) × (Nat → Nat) × (Nat → Nat → Int32)} (h : CH x H) (hi : i < 6 ∨ 10 ≤ i) : CH (setA x i f) H := by
  intro k hk
  obtain ⟨h1, h2⟩ := h k hk
  refine ⟨h1, fun hn => ?_⟩
  obtain ⟨g1, g2, g3⟩ := h2 hn
  refine ⟨g1, g2, fun j hj => ?_⟩
  show va_up x.2.1 i f _ j = _; rw [vup_ne (by omega)]; exact g3 j hj
theorem CR.int {x : St} {i : Nat} {v : Int32} {R : Nat × (Nat → Nat → Nat)} (h : CR x R) (hi : i ≠ 17) : CR (setI x i v) R := by
  obtain ⟨h1, h2⟩ := h
  refine ⟨?_, h2⟩
  show upd x.1 i v _ = _; rw [upd_ne (Ne.symm hi)]; exact h1
theorem CR.arr {x : St} {i : Nat} {f : Nat → Int32} {R : Nat × (Nat → Nat → Nat)} (h : CR x R) (hi : i < 12 ∨ 15 ≤ i) : CR (setA x i f) R := by
  obtain ⟨h1, h2⟩ := h
  refine ⟨h1, fun j hj => ?_⟩
  obtain ⟨g1, g2, g3⟩ := h2 j hj
  refine ⟨?_, ?_, ?_⟩ <;> (show va_up x.2.1 i f _ j = _; rw [vup_ne (by omega)]; assumption)
/-- a change of a shore's int: 0 stream, 1 mild, 2 leap -/
theorem ShR.setI {x : St} {w i v : Nat} {a : SA} (h : ShR x w a) (hi : i < 3) : ShR (setI x (21 + i + 5 * w) (nI v)) w (up1 a.1 i v, a.2) := by
  obtain ⟨h0, h1, h2, h3, h4, h5, h6⟩ := h
  refine ⟨?_, ?_, ?_, ?_, ?_, ?_, ?_⟩
  · show upd x.1 _ _ _ = nI (if 0 = i then v else a.1 0)
    by_cases e : i = 0
    · subst e; rw [if_pos rfl]; exact upd_eq
    · rw [if_neg (Ne.symm e), upd_ne (by omega)]; exact h0
  · show upd x.1 _ _ _ = nI (if 1 = i then v else a.1 1)
    by_cases e : i = 1
    · subst e; rw [if_pos rfl]; exact upd_eq
    · rw [if_neg (Ne.symm e), upd_ne (by omega)]; exact h1
  · show upd x.1 _ _ _ = nI (if 2 = i then v else a.1 2)
    by_cases e : i = 2
    · subst e; rw [if_pos rfl]; exact upd_eq
    · rw [if_neg (Ne.symm e), upd_ne (by omega)]; exact h2
  · show upd x.1 _ _ _ = nI (if 3 = i then v else a.1 3)
    rw [if_neg (by omega), upd_ne (by omega)]; exact h3
  · show upd x.1 _ _ _ = nI (if 4 = i then v else a.1 4)
    rw [if_neg (by omega), upd_ne (by omega)]; exact h4
  · intro j hj
    exact h5 j (by have e : up1 a.1 i v 3 = a.1 3 := if_neg (by omega); exact e ▸ hj)
  · intro j hj
    exact h6 j (by have e : up1 a.1 i v 4 = a.1 4 := if_neg (by omega); exact e ▸ hj)
theorem ShR.setA {x : St} {w t i v : Nat} {a : SA} (h : ShR x w a) (ht : t < 5) : ShR (setA x (26 + t + 6 * w) (upd (x.2.1 (26 + t + 6 * w)) i (nI v))) w (a.1, up2 a.2 t i v) := by
  have key : ∀ u, u < 5 → ∀ j, x.2.1 (26 + u + 6 * w) j = nI (a.2 u j) → va_up x.2.1 (26 + t + 6 * w) (upd (x.2.1 (26 + t + 6 * w)) i (nI v)) (26 + u + 6 * w) j = nI (up2 a.2 t i v u j) := by
    intro u hu j hj
    by_cases e : u = t
    · subst e
      rw [vup_eq]
      by_cases e2 : j = i
      · subst e2; rw [upd_eq]; show _ = nI (if _ then _ else _); rw [if_pos ⟨rfl, rfl⟩]
      · rw [upd_ne e2, hj]; show _ = nI (if _ then _ else _); rw [if_neg (fun q => e2 q.2)]
    · rw [vup_ne (by omega), hj]; show _ = nI (if _ then _ else _); rw [if_neg (fun q => e q.1)]
  obtain ⟨h0, h1, h2, h3, h4, h5, h6⟩ := h
  refine ⟨h0, h1, h2, h3, h4, fun j hj => ?_, fun j hj => ?_⟩
  · obtain ⟨g1, g2⟩ := h5 j hj
    exact ⟨key 0 (by omega) j g1, key 1 (by omega) j g2⟩
  · obtain ⟨g1, g2, g3⟩ := h6 j hj
    exact ⟨key 2 (by omega) j g1, key 3 (by omega) j g2, key 4 (by omega) j g3⟩
theorem absC_F {x : St} {A : AB} {v : Int32} (h : AbsC x A) : AbsC (setI x 1 v) (AsF A v) := by
  obtain ⟨⟨c1, c2, c3, c4⟩, h2, h3, h4, h5⟩ := h
  refine ⟨⟨c1, c2, c3, c4.int (by omega)⟩, h2.int (by omega), h3.int (by omega), ?_, (upd_eq : upd x.1 1 v 1 = v)⟩
  show upd x.1 1 v 0 = _; rw [upd_ne (by omega)]; exact h4
theorem absC_T {x : St} {A : AB} {v : Int32} (h : AbsC x A) : AbsC (setI x 0 v) (AsT A v) := by
  obtain ⟨⟨c1, c2, c3, c4⟩, h2, h3, h4, h5⟩ := h
  refine ⟨⟨c1, c2, c3, c4.int (by omega)⟩, h2.int (by omega), h3.int (by omega), (upd_eq : upd x.1 0 v 0 = v), ?_⟩
  show upd x.1 0 v 1 = _; rw [upd_ne (by omega)]; exact h5
theorem absC_I {x : St} {A : AB} {i v : Nat} (hi : i < 3) (h : AbsC x A) : AbsC (setI x (21 + i + 5 * x.2.2.1) (nI v)) (AsI A i v) := by
  obtain ⟨⟨c1, c2, c3, c4⟩, h2, h3, h4, h5⟩ := h
  refine ⟨⟨c1, c2, c3, c4.setI hi⟩, h2.int (by omega), h3.int (by omega), ?_, ?_⟩
  · show upd x.1 _ _ 0 = _; rw [upd_ne (by omega)]; exact h4
  · show upd x.1 _ _ 1 = _; rw [upd_ne (by omega)]; exact h5
theorem absC_A {x : St} {A : AB} {t i v : Nat} (ht : t < 5) (h : AbsC x A) : AbsC (setA x (26 + t + 6 * x.2.2.1) (upd (x.2.1 (26 + t + 6 * x.2.2.1)) i (nI v))) (AsA A t i v) := by
  obtain ⟨⟨c1, c2, c3, c4⟩, h2, h3, h4, h5⟩ := h
  exact ⟨⟨c1, c2, c3, c4.setA ht⟩, h2.arr (by omega), h3.arr (by omega), h4, h5⟩
-- the reference's side
theorem MdR.int {x : Mt} {i : Nat} {v : Int32} {a : SA} (h : MdR x a) (hi : i < 5 ∨ 10 ≤ i) : MdR (mI x i v) a := by
  obtain ⟨h0, h1, h2, h3, h4, h5, h6⟩ := h
  refine ⟨?_, ?_, ?_, ?_, ?_, h5, h6⟩ <;> (show upd x.1 i v _ = _; rw [upd_ne (by omega)]; assumption)
theorem MdR.arr {x : Mt} {i : Nat} {f : Nat → Int32} {a : SA} (h : MdR x a) (hi : i < 10 ∨ 15 ≤ i) : MdR (mA x i f) a := by
  obtain ⟨h0, h1, h2, h3, h4, h5, h6⟩ := h
  refine ⟨h0, h1, h2, h3, h4, fun j hj => ?_, fun j hj => ?_⟩
  · obtain ⟨g1, g2⟩ := h5 j hj
    refine ⟨?_, ?_⟩ <;> (show va_up x.2 i f _ j = _; rw [vup_ne (by omega)]; assumption)
  · obtain ⟨g1, g2, g3⟩ := h6 j hj
    refine ⟨?_, ?_, ?_⟩ <;> (show va_up x.2 i f _ j = _; rw [vup_ne (by omega)]; assumption)
theorem MH.int {x : Mt} {i : Nat} {v : Int32} {H : (Nat → Nat) × (Nat → Nat) × (Nat → Nat → Int32)} (h : MH x H) : MH (mI x i v) H := h
theorem MH.arr {x : Mt} {i : Nat} {f : Nat → Int32} {H : (Nat → Nat) × (Nat → Nat) × (Nat → Nat → Int32)} (h : MH x H) (hi : i < 2 ∨ 5 ≤ i) : MH (mA x i f) H := by
  intro k hk
  obtain ⟨h1, h2⟩ := h k hk
  refine ⟨?_, fun hn => ?_⟩
  · show va_up x.2 i f _ k = _; rw [vup_ne (by omega)]; exact h1
  · obtain ⟨g1, g2⟩ := h2 hn
    refine ⟨?_, fun j hj => ?_⟩
    · show va_up x.2 i f _ k = _; rw [vup_ne (by omega)]; exact g1
    · show va_up x.2 i f _ _ = _; rw [vup_ne (by omega)]; exact g2 j hj
theorem MR.int {x : Mt} {i : Nat} {v : Int32} {R : Nat × (Nat → Nat → Nat)} (h : MR x R) (hi : i ≠ 29) : MR (mI x i v) R := by
  obtain ⟨h1, h2⟩ := h
  refine ⟨?_, h2⟩
  show upd x.1 i v _ = _; rw [upd_ne (Ne.symm hi)]; exact h1
theorem MR.arr {x : Mt} {i : Nat} {f : Nat → Int32} {R : Nat × (Nat → Nat → Nat)} (h : MR x R) (hi : i < 30 ∨ 33 ≤ i) : MR (mA x i f) R := by
  obtain ⟨h1, h2⟩ := h
  refine ⟨h1, fun j hj => ?_⟩
  obtain ⟨g1, g2, g3⟩ := h2 j hj
  refine ⟨?_, ?_, ?_⟩ <;> (show va_up x.2 i f _ j = _; rw [vup_ne (by omega)]; assumption)
theorem MdR.setI {x : Mt} {i v : Nat} {a : SA} (h : MdR x a) (hi : i < 3) : MdR (mI x (7 + i) (nI v)) (up1 a.1 i v, a.2) := by
  obtain ⟨h0, h1, h2, h3, h4, h5, h6⟩ := h
  refine ⟨?_, ?_, ?_, ?_, ?_, ?_, ?_⟩
  · show upd x.1 _ _ _ = nI (if 0 = i then v else a.1 0)
    by_cases e : i = 0
    · subst e; rw [if_pos rfl]; exact upd_eq
    · rw [if_neg (Ne.symm e), upd_ne (by omega)]; exact h0
  · show upd x.1 _ _ _ = nI (if 1 = i then v else a.1 1)
    by_cases e : i = 1
    · subst e; rw [if_pos rfl]; exact upd_eq
    · rw [if_neg (Ne.symm e), upd_ne (by omega)]; exact h1
  · show upd x.1 _ _ _ = nI (if 2 = i then v else a.1 2)
    by_cases e : i = 2
    · subst e; rw [if_pos rfl]; exact upd_eq
    · rw [if_neg (Ne.symm e), upd_ne (by omega)]; exact h2
  · show upd x.1 _ _ _ = nI (if 3 = i then v else a.1 3)
    rw [if_neg (by omega), upd_ne (by omega)]; exact h3
  · show upd x.1 _ _ _ = nI (if 4 = i then v else a.1 4)
    rw [if_neg (by omega), upd_ne (by omega)]; exact h4
  · intro j hj
    exact h5 j (by have e : up1 a.1 i v 3 = a.1 3 := if_neg (by omega); exact e ▸ hj)
  · intro j hj
    exact h6 j (by have e : up1 a.1 i v 4 = a.1 4 := if_neg (by omega); exact e ▸ hj)
theorem MdR.setA {x : Mt} {t i v : Nat} {a : SA} (h : MdR x a) (ht : t < 5) : MdR (mA x (10 + t) (upd (x.2 (10 + t)) i (nI v))) (a.1, up2 a.2 t i v) := by
  have key : ∀ u, u < 5 → ∀ j, x.2 (10 + u) j = nI (a.2 u j) → va_up x.2 (10 + t) (upd (x.2 (10 + t)) i (nI v)) (10 + u) j = nI (up2 a.2 t i v u j) := by
    intro u hu j hj
    by_cases e : u = t
    · subst e
      rw [vup_eq]
      by_cases e2 : j = i
      · subst e2; rw [upd_eq]; show _ = nI (if _ then _ else _); rw [if_pos ⟨rfl, rfl⟩]
      · rw [upd_ne e2, hj]; show _ = nI (if _ then _ else _); rw [if_neg (fun q => e2 q.2)]
    · rw [vup_ne (by omega), hj]; show _ = nI (if _ then _ else _); rw [if_neg (fun q => e q.1)]
  obtain ⟨h0, h1, h2, h3, h4, h5, h6⟩ := h
  refine ⟨h0, h1, h2, h3, h4, fun j hj => ?_, fun j hj => ?_⟩
  · obtain ⟨g1, g2⟩ := h5 j hj
    exact ⟨key 0 (by omega) j g1, key 1 (by omega) j g2⟩
  · obtain ⟨g1, g2, g3⟩ := h6 j hj
    exact ⟨key 2 (by omega) j g1, key 3 (by omega) j g2, key 4 (by omega) j g3⟩
theorem absM_F {x : Mt} {A : AB} {v : Int32} (h : AbsM x A) : AbsM (mI x 0 v) (AsF A v) := by
  obtain ⟨h1, h2, h3, h4, h5⟩ := h
  refine ⟨h1.int (by omega), h2, h3.int (by omega), ?_, (upd_eq : upd x.1 0 v 0 = v)⟩
  show upd x.1 0 v 1 = _; rw [upd_ne (by omega)]; exact h4
theorem absM_T {x : Mt} {A : AB} {v : Int32} (h : AbsM x A) : AbsM (mI x 1 v) (AsT A v) := by
  obtain ⟨h1, h2, h3, h4, h5⟩ := h
  refine ⟨h1.int (by omega), h2, h3.int (by omega), (upd_eq : upd x.1 1 v 1 = v), ?_⟩
  show upd x.1 1 v 0 = _; rw [upd_ne (by omega)]; exact h5
theorem absM_I {x : Mt} {A : AB} {i v : Nat} (hi : i < 3) (h : AbsM x A) : AbsM (mI x (7 + i) (nI v)) (AsI A i v) := by
  obtain ⟨h1, h2, h3, h4, h5⟩ := h
  refine ⟨h1.setI hi, h2, h3.int (by omega), ?_, ?_⟩
  · show upd x.1 _ _ 1 = _; rw [upd_ne (by omega)]; exact h4
  · show upd x.1 _ _ 0 = _; rw [upd_ne (by omega)]; exact h5
theorem absM_A {x : Mt} {A : AB} {t i v : Nat} (ht : t < 5) (h : AbsM x A) : AbsM (mA x (10 + t) (upd (x.2 (10 + t)) i (nI v))) (AsA A t i v) := by
  obtain ⟨h1, h2, h3, h4, h5⟩ := h
  exact ⟨h1.setA ht, h2.arr (by omega), h3.arr (by omega), h4, h5⟩
-- changes keep the bounds
theorem aok_F {A : AB} {v : Int32} (h : AOK A) : AOK (AsF A v) := h
theorem aok_T {A : AB} {v : Int32} (h : AOK A) : AOK (AsT A v) := h
theorem up1_ne {f : Nat → Nat} {i v j : Nat} (h : j ≠ i) : up1 f i v j = f j := if_neg h
theorem sok_up2 {a : SA} {t i v : Nat} (h : SOK a) (hv : (t = 0 → v ≤ 9) ∧ (t = 1 → v ≤ 9) ∧ (t = 2 → v ≤ 2) ∧ (t = 3 → v < a.1 3) ∧ (t = 4 → v ≤ 9)) : SOK (a.1, up2 a.2 t i v) := by
  obtain ⟨o0, o1, o2, o3, o4, o5, o6, o7⟩ := h
  obtain ⟨v0, v1, v2, v3, v4⟩ := hv
  refine ⟨o0, o1, o2, o3, o4, fun j hj => ?_, fun j hj => ?_, o7⟩
  · have := o5 j hj
    refine ⟨?_, ?_⟩ <;> (show (if _ then _ else _) ≤ _; split <;> rename_i e <;> first | omega | (obtain ⟨e1, e2⟩ := e; omega))
  · obtain ⟨q1, q2, q3⟩ := o6 j hj
    refine ⟨?_, ?_, ?_⟩
    · show (if _ then _ else _) ≤ _; split <;> rename_i e <;> omega
    · show (if _ then _ else _) < a.1 3; split <;> rename_i e <;> omega
    · show (if _ then _ else _) ≤ _; split <;> rename_i e <;> omega
theorem sok_up1 {a : SA} {i v : Nat} (h : SOK a) (hi : i < 3) (hv : (i = 0 → 1 ≤ v ∧ v ≤ 3) ∧ (i = 1 → v ≤ 9) ∧ (i = 2 → v ≤ 9)) : SOK (up1 a.1 i v, a.2) := by
  obtain ⟨o0, o1, o2, o3, o4, o5, o6, o7⟩ := h
  obtain ⟨v0, v1, v2⟩ := hv
  have e3 : up1 a.1 i v 3 = a.1 3 := if_neg (by omega)
  have e4 : up1 a.1 i v 4 = a.1 4 := if_neg (by omega)
  refine ⟨?_, ?_, ?_, ?_, ?_, ?_, ?_, ?_⟩
  · show (if _ then _ else _) ≤ _; split <;> omega
  · show (if _ then _ else _) ≤ _; split <;> omega
  · show (if _ then _ else _) ≤ _; split <;> omega
  · show up1 a.1 i v 3 ≤ 6; rw [e3]; exact o3
  · show up1 a.1 i v 4 ≤ 6; rw [e4]; exact o4
  · intro j hj; exact o5 j (e3 ▸ hj)
  · intro j hj
    show _ ∧ _ < up1 a.1 i v 3 ∧ _
    rw [e3]
    exact o6 j (e4 ▸ hj)
  · intro hp
    have hp2 : 0 < a.1 3 := e3 ▸ hp
    show 1 ≤ (if _ then _ else _)
    split
    · rename_i e; exact (v0 e.symm).1
    · exact o7 hp2
theorem aok_A {A : AB} {t i v : Nat} (h : AOK A) (hv : (t = 0 → v ≤ 9) ∧ (t = 1 → v ≤ 9) ∧ (t = 2 → v ≤ 2) ∧ (t = 3 → v < A.1.1 3) ∧ (t = 4 → v ≤ 9)) : AOK (AsA A t i v) := ⟨sok_up2 h.1 hv, h.2⟩
theorem aok_I {A : AB} {i v : Nat} (h : AOK A) (hi : i < 3) (hv : (i = 0 → 1 ≤ v ∧ v ≤ 3) ∧ (i = 1 → v ≤ 9) ∧ (i = 2 → v ≤ 9)) : AOK (AsI A i v) := by
  obtain ⟨h1, h2, h3, h4⟩ := h
  have e3 : up1 A.1.1 i v 3 = A.1.1 3 := if_neg (by omega)
  have e4 : up1 A.1.1 i v 4 = A.1.1 4 := if_neg (by omega)
  refine ⟨sok_up1 h1 hi hv, h2, h3, fun j hj => ?_⟩
  obtain ⟨g1, g2, g3⟩ := h4 j hj
  exact ⟨by show _ < up1 A.1.1 i v 4; rw [e4]; exact g1, g2, by show _ < up1 A.1.1 i v 3; rw [e3]; exact g3⟩
/-! what each call answers, and what the state is behind it -/
def R_ofPool (A : AB) (q w : Int32) : Int32 := if pB A.1 q then if w = nI 0 then nI (A.1.2 0 (tn q)) else if w = nI 1 then nI (A.1.2 1 (tn q)) else if w = nI 2 then nI (sit A.1 (tn q)) else if w = nI 3 then nI (A.1.2 1 (tn q) * 6 / (pop (sit A.1 (tn q)) + 1)) else (-2) else (-1)
def R_ofMember (A : AB) (m w : Int32) : Int32 := if mB A.1 m then if w = nI 0 then nI (A.1.2 2 (tn m)) else if w = nI 1 then nI (A.1.2 3 (tn m)) else if w = nI 2 then nI (A.1.2 4 (tn m)) else if w = nI 3 then nI (stp (A.1.1 0) (A.1.2 2 (tn m))) else (-2) else (-1)
def R_raise (A : AB) (q v : Int32) : Int32 := if pB A.1 q then if inB v 1 9 then nI (A.1.2 0 (tn q)) else (-2) else (-1)
def N_raise (A : AB) (q v : Int32) : AB := if pB A.1 q then if inB v 1 9 then AsA A 0 (tn q) (tn v) else A else A
def R_sway (A : AB) (m v : Int32) : Int32 := if mB A.1 m then if dB v then nI (A.1.2 4 (tn m)) else (-2) else (-1)
def N_sway (A : AB) (m v : Int32) : AB := if mB A.1 m then if dB v then AsA A 4 (tn m) (tn v) else A else A
def R_seat (A : AB) (m q : Int32) : Int32 := if mB A.1 m then if pB A.1 q then nI (A.1.2 3 (tn m)) else (-1) else (-1)
def N_seat (A : AB) (m q : Int32) : AB := if mB A.1 m then if pB A.1 q then AsA A 3 (tn m) (tn q) else A else A
def R_flow (A : AB) (v : Int32) : Int32 := if inB v 1 3 then if A.1.1 3 = 0 then (-3) else nI (A.1.1 0) else (-2)
def N_flow (A : AB) (v : Int32) : AB := if inB v 1 3 then if A.1.1 3 = 0 then A else AsI A 0 (tn v) else A
def R_calm (A : AB) (v : Int32) : Int32 := if dB v then if A.1.1 3 = 0 then (-3) else nI (A.1.1 1) else (-2)
def N_calm (A : AB) (v : Int32) : AB := if dB v then if A.1.1 3 = 0 then A else AsI A 1 (tn v) else A
def R_leap (A : AB) (v : Int32) : Int32 := if dB v then if A.1.1 3 = 0 then (-3) else nI (A.1.1 2) else (-2)
def N_leap (A : AB) (v : Int32) : AB := if dB v then if A.1.1 3 = 0 then A else AsI A 2 (tn v) else A
def R_washed (A : AB) (h : Int32) : Int32 := if dB h then if A.1.1 3 = 0 then (-3) else nI (wet A.1 (tn h)) else (-2)
def R_carried (A : AB) (m h : Int32) : Int32 := if mB A.1 m then if dB h then nI (carry A.1 (A.1.2 3 (tn m)) (A.1.2 2 (tn m)) (tn h)) else (-2) else (-1)
def tided (a : SA) (h : Nat) : SA := (a.1, fun t j => if t = 3 then carry a (a.2 3 j) (a.2 2 j) h else a.2 t j)
def mvd (a : SA) (h : Nat) : Nat := cnt (fun m => decide (carry a (a.2 3 m) (a.2 2 m) h ≠ a.2 3 m)) (a.1 4)
def R_tide (A : AB) (h : Int32) : Int32 := if dB h then if A.1.1 3 = 0 then (-3) else nI (mvd A.1 (tn h)) else (-2)
def N_tide (A : AB) (h : Int32) : AB := if dB h then if A.1.1 3 = 0 then A else AsS A (tided A.1 (tn h)) else A
def R_ayes (A : AB) (v : Int32) : Int32 := if dB v then if A.1.1 3 = 0 then (-3) else nI (fri A.1 (tn v)) else (-2)
def R_passes (A : AB) (v : Int32) : Int32 := if dB v then if A.1.1 3 = 0 then (-3) else nI (won A.1 (fri A.1 (tn v))) else (-2)
def R_law (A : AB) (v : Int32) : Int32 := if dB v then if A.1.1 3 = 0 then (-3) else b2i (isLaw A.1 (fri A.1 (tn v))) else (-2)
def bestF (a : SA) : Nat → Nat × Nat
  | 0 => (0, 0)
  | n + 1 => if (bestF a n).2 < pop (won a (fri a n)) + 1 then (n, pop (won a (fri a n)) + 1) else bestF a n
def R_best (A : AB) (w : Int32) : Int32 := if inB w 0 1 then if A.1.1 3 = 0 then (-3) else if w = nI 0 then nI (bestF A.1 10).1 else nI ((bestF A.1 10).2 - 1) else (-2)
/-- the first of the fewest sets, of those below n: 0 none, else it and 1 -/
def turnF (a : SA) (f : Nat) : Nat → Nat
  | 0 => 0
  | n + 1 => if n &&& f = 0 then if isLaw a (n ||| f) = true then if turnF a f n = 0 then n + 1 else if pop n < pop (turnF a f n - 1) then n + 1 else turnF a f n else turnF a f n else turnF a f n
def less1 (n : Nat) : Int32 := if n = 0 then (-9) else nI (n - 1)
def R_turn (A : AB) (v : Int32) : Int32 := if dB v then if A.1.1 3 = 0 then (-3) else less1 (turnF A.1 (fri A.1 (tn v)) (2 ^ A.1.1 4)) else (-2)
def R_reading (A : AB) (m h q : Int32) : Int32 := if mB A.1 m then if dB h then if pB A.1 q then if A.2.2.1.1 = 8 then (-4) else nI A.2.2.1.1 else (-1) else (-2) else (-1)
def N_reading (A : AB) (m h q : Int32) : AB := if mB A.1 m then if dB h then if pB A.1 q then if A.2.2.1.1 = 8 then A else AsR A (A.2.2.1.1 + 1, up2 (up2 (up2 A.2.2.1.2 0 A.2.2.1.1 (tn m)) 1 A.2.2.1.1 (tn h)) 2 A.2.2.1.1 (tn q)) else A else A else A
def R_back (A : AB) (k : Int32) : Int32 := if inB k 0 (A.2.2.1.1 : Int) then nI (A.2.2.1.1 - tn k) else (-2)
def N_back (A : AB) (k : Int32) : AB := if inB k 0 (A.2.2.1.1 : Int) then AsR A (A.2.2.1.1 - tn k, A.2.2.1.2) else A
def soR (a : SA) (rr : Nat → Nat → Nat) : Nat → Bool
  | 0 => true
  | n + 1 => soR a rr n && decide (carry a (a.2 3 (rr 0 n)) (a.2 2 (rr 0 n)) (rr 1 n) = rr 2 n)
def R_heights (A : AB) (q : Int32) : Int32 := if pB A.1 q then nI (bits (fun v => decide (1 ≤ v) && soR (A.1.1, up2 A.1.2 0 (tn q) v) A.2.2.1.2 A.2.2.1.1) 10) else (-1)
def R_kinds (A : AB) (m : Int32) : Int32 := if mB A.1 m then nI (bits (fun v => soR (A.1.1, up2 A.1.2 2 (tn m) v) A.2.2.1.2 A.2.2.1.1) 3) else (-1)
def R_streams (A : AB) : Int32 := if A.1.1 3 = 0 then (-3) else nI (bits (fun v => decide (1 ≤ v) && soR (up1 A.1.1 0 v, A.1.2) A.2.2.1.2 A.2.2.1.1) 4)
def pairs (a : SA) (m q : Nat) : Nat → Nat
  | 0 => 0
  | n + 1 => pairs a m q n + (if carry a (carry a (a.2 3 m) (a.2 2 m) (n / 10)) (a.2 2 m) (n % 10) = q then 1 else 0)
def gcd100 (u : Nat) : Nat → Nat
  | 0 => 1
  | 1 => 1
  | n + 2 => if u % (n + 2) = 0 then if 100 % (n + 2) = 0 then n + 2 else gcd100 u (n + 1) else gcd100 u (n + 1)
def LOSTv : Int64 := -9223372036854775808
def R_odds (A : AB) (m q w : Int32) : Int64 := if mB A.1 m then if pB A.1 q then if inB w 0 1 then if w = nI 0 then lN (pairs A.1 (tn m) (tn q) 100 / gcd100 (pairs A.1 (tn m) (tn q) 100) 100) else lN (100 / gcd100 (pairs A.1 (tn m) (tn q) 100) 100) else LOSTv else LOSTv else LOSTv
/-- the first fault of a row that is told; 0: none -/
def rowF (H : (Nat → Nat) × (Nat → Nat) × (Nat → Nat → Int32)) (k : Nat) (lane i n : Int32) : Nat := if H.1 k = 0 then 1 else if nI (H.1 k - 1) = lane then if n.toInt < 0 then 4 else if 0 ≤ i.toInt ∧ i.toInt ≤ (H.2.1 k : Int) ∧ n.toInt ≤ (H.2.1 k : Int) - i.toInt then 0 else 3 else 2
def R_sheet (A : AB) (k l n : Int32) : Int32 := if hB k then if lB l then if 60 < n.toInt then (-2) else if n.toInt < 0 then (-14) else 1 else (-2) else (-1)
def N_sheet (A : AB) (k l n : Int32) : AB := if hB k then if lB l then if 60 < n.toInt then AsF A 0 else if n.toInt < 0 then AsF A 4 else AsH (AsF A 0) (up1 A.2.1.1 (tn k) (tn l + 1), up1 A.2.1.2.1 (tn k) (tn n), fun u j => if u = tn k then 0 else A.2.1.2.2 u j) else AsF A 0 else AsF A 0
def R_lose (A : AB) (k : Int32) : Int32 := if hB k then b2i (decide (A.2.1.1 (tn k) ≠ 0)) else (-1)
def N_lose (A : AB) (k : Int32) : AB := if hB k then AsH A (up1 A.2.1.1 (tn k) 0, A.2.1.2) else A
def cutI (sk : Nat) (v : Int32) : Int32 := if sk = 1 then v.toInt8.toInt32 else if sk = 2 then v.toInt16.toInt32 else v
def putH (H : (Nat → Nat) × (Nat → Nat) × (Nat → Nat → Int32)) (k i : Nat) (v : Int32) : (Nat → Nat) × (Nat → Nat) × (Nat → Nat → Int32) := (H.1, H.2.1, fun u j => if u = k ∧ j = i then v else H.2.2 u j)
def R_put (A : AB) (k i v : Int32) : Int32 := if hB k then if A.2.1.1 (tn k) = 0 then (-11) else if inB i 0 ((A.2.1.2.1 (tn k) : Int) - 1) then 1 else (-13) else (-1)
def N_put (A : AB) (k i v : Int32) : AB := if hB k then if A.2.1.1 (tn k) = 0 then AsF A 1 else if inB i 0 ((A.2.1.2.1 (tn k) : Int) - 1) then AsH (AsF A 0) (putH A.2.1 (tn k) (tn i) (cutI (A.2.1.1 (tn k)) v)) else AsF A 3 else AsF A 0
def R_cell (A : AB) (k i l : Int32) : Int64 := if hB k then if lB l then if rowF A.2.1 (tn k) l i (nI 1) = 0 then (A.2.1.2.2 (tn k) (tn i)).toInt64 else LOSTv else LOSTv else LOSTv
def N_cell (A : AB) (k i l : Int32) : AB := if hB k then if lB l then AsF A (nI (rowF A.2.1 (tn k) l i (nI 1))) else AsF A 0 else AsF A 0
abbrev inH (H : (Nat → Nat) × (Nat → Nat) × (Nat → Nat → Int32)) (k : Nat) (i n : Int32) : Prop := 0 ≤ i.toInt ∧ i.toInt ≤ (H.2.1 k : Int) ∧ 0 ≤ n.toInt ∧ n.toInt ≤ (H.2.1 k : Int) - i.toInt
def cpyF (H : (Nat → Nat) × (Nat → Nat) × (Nat → Nat → Int32)) (k i o j n : Nat) : (Nat → Nat) × (Nat → Nat) × (Nat → Nat → Int32) := (H.1, H.2.1, fun u p => if u = o ∧ j ≤ p ∧ p < j + n then H.2.2 k (i + (p - j)) else H.2.2 u p)

def R_copy (A : AB) (k i o j n : Int32) : Int32 := if hB k then if hB o then if A.2.1.1 (tn k) = 0 then (-11) else if A.2.1.1 (tn o) = 0 then (-11) else if A.2.1.1 (tn k) = A.2.1.1 (tn o) then if inH A.2.1 (tn k) i n then if inH A.2.1 (tn o) j n then n else (-13) else (-13) else (-12) else (-1) else (-1)
def N_copy (A : AB) (k i o j n : Int32) : AB := if hB k then if hB o then if A.2.1.1 (tn k) = 0 then AsF A 1 else if A.2.1.1 (tn o) = 0 then AsF A 1 else if A.2.1.1 (tn k) = A.2.1.1 (tn o) then if inH A.2.1 (tn k) i n then if inH A.2.1 (tn o) j n then AsH (AsF A 0) (cpyF A.2.1 (tn k) (tn i) (tn o) (tn j) (tn n)) else AsF A 3 else AsF A 3 else AsF A 2 else AsF A 0 else AsF A 0
def trc (t b : Int32) : Int32 := nI 31 * t + b
def R_tell (A : AB) (m : Int32) : Int32 := if mB A.1 m then if A.1.2 2 (tn m) = 0 then nI (A.1.2 4 (tn m)) else if A.1.2 2 (tn m) = 1 then nI (A.1.2 4 (tn m) + 100) else nI (2 * A.1.2 4 (tn m) + 100) else (-1)
def N_tell (A : AB) (m : Int32) : AB := if mB A.1 m then if A.1.2 2 (tn m) = 0 then AsT A (trc A.2.2.2.1 (nI 1)) else if A.1.2 2 (tn m) = 1 then AsT A (trc (trc A.2.2.2.1 (nI 2)) (nI 1)) else AsT A (trc (trc (trc (trc A.2.2.2.1 (nI 3)) (nI 2)) (nI 1)) (nI 1)) else A
def R_name (A : AB) (m : Int32) : Int32 := if mB A.1 m then if A.1.2 2 (tn m) = 2 then nI 60 else m else (-1)
def N_name (A : AB) (m : Int32) : AB := if mB A.1 m then if A.1.2 2 (tn m) = 2 then AsT A (trc A.2.2.2.1 (nI 5)) else AsT A (trc A.2.2.2.1 (nI 4)) else A
def R_as (A : AB) (m k : Int32) : Int32 := if mB A.1 m then if inB k 0 2 then if A.1.2 2 (tn m) < tn k then (-12) else 1 else (-2) else (-1)
def N_as (A : AB) (m k : Int32) : AB := if mB A.1 m then if inB k 0 2 then if A.1.2 2 (tn m) < tn k then AsF A 2 else AsF A 0 else AsF A 0 else AsF A 0
def R_many (A : AB) (w : Int32) : Int32 := if w = nI 0 then nI (A.1.1 4) else if w = nI 1 then nI (A.1.1 3) else if w = nI 2 then nI (A.1.1 0) else if w = nI 3 then nI (A.1.1 1) else if w = nI 4 then nI (A.1.1 2) else if w = nI 5 then nI A.2.2.1.1 else (-2)
theorem sI_eq {x : St} {i : Nat} {v : Int32} : (setI x i v).1 i = v := if_pos rfl
theorem sI_ne {x : St} {i j : Nat} {v : Int32} (h : j ≠ i) : (setI x i v).1 j = x.1 j := if_neg h
theorem sA_eq {x : St} {i : Nat} {f : Nat → Int32} : (setA x i f).2.1 i = f := if_pos rfl
theorem sA_ne {x : St} {i j : Nat} {f : Nat → Int32} (h : j ≠ i) : (setA x i f).2.1 j = x.2.1 j := if_neg h
theorem mI_eq {x : Mt} {i : Nat} {v : Int32} : (mI x i v).1 i = v := if_pos rfl
theorem mI_ne {x : Mt} {i j : Nat} {v : Int32} (h : j ≠ i) : (mI x i v).1 j = x.1 j := if_neg h
theorem mA_eq {x : Mt} {i : Nat} {f : Nat → Int32} : (mA x i f).2 i = f := if_pos rfl
theorem mA_ne {x : Mt} {i j : Nat} {f : Nat → Int32} (h : j ≠ i) : (mA x i f).2 j = x.2 j := if_neg h
theorem ShR.same {x y : St} {w : Nat} {a : SA} (h : ShR x w a) (hI : ∀ i, 21 + 5 * w ≤ i → i < 26 + 5 * w → y.1 i = x.1 i) (hAr : ∀ i, 26 + 6 * w ≤ i → i < 31 + 6 * w → y.2.1 i = x.2.1 i) : ShR y w a := by
  obtain ⟨h0, h1, h2, h3, h4, h5, h6⟩ := h
  refine ⟨(hI _ (by omega) (by omega)).trans h0, (hI _ (by omega) (by omega)).trans h1, (hI _ (by omega) (by omega)).trans h2, (hI _ (by omega) (by omega)).trans h3, (hI _ (by omega) (by omega)).trans h4, fun j hj => ?_, fun j hj => ?_⟩
  · rw [hAr _ (by omega) (by omega), hAr _ (by omega) (by omega)]; exact h5 j hj
  · rw [hAr _ (by omega) (by omega), hAr _ (by omega) (by omega), hAr _ (by omega) (by omega)]; exact h6 j hj
theorem CH.same {x y : St} {H : (Nat → Nat) × (Nat → Nat) × (Nat → Nat → Int32)} (h : CH x H) (hI : ∀ i, 2 ≤ i → i < 14 → y.1 i = x.1 i) (hAr : ∀ i, 6 ≤ i → i < 10 → y.2.1 i = x.2.1 i) : CH y H := by
  intro k hk
  rw [hI _ (by omega) (by omega), hI _ (by omega) (by omega), hI _ (by omega) (by omega), hAr _ (by omega) (by omega)]
  exact h k hk
theorem CR.same {x y : St} {R : Nat × (Nat → Nat → Nat)} (h : CR x R) (hI : y.1 17 = x.1 17) (hAr : ∀ i, 12 ≤ i → i < 15 → y.2.1 i = x.2.1 i) : CR y R := by
  refine ⟨hI.trans h.1, fun j hj => ?_⟩
  rw [hAr 12 (by omega) (by omega), hAr 13 (by omega) (by omega), hAr 14 (by omega) (by omega)]
  exact h.2 j hj
/-- all but one shore is as before -/
def FRW (w : Nat) (x y : St) : Prop := y.2.2 = x.2.2 ∧ (∀ i, i < 21 + 5 * w ∨ 26 + 5 * w ≤ i → y.1 i = x.1 i) ∧ (∀ i, i < 26 + 6 * w ∨ 31 + 6 * w ≤ i → y.2.1 i = x.2.1 i)
theorem FRW.rf {w : Nat} {x : St} : FRW w x x := ⟨rfl, fun _ _ => rfl, fun _ _ => rfl⟩
theorem FRW.tr {w : Nat} {x y z : St} (h : FRW w x y) (g : FRW w y z) : FRW w x z := ⟨g.1.trans h.1, fun i hi => (g.2.1 i hi).trans (h.2.1 i hi), fun i hi => (g.2.2 i hi).trans (h.2.2 i hi)⟩
theorem FRW.int {w i : Nat} {x : St} {v : Int32} (hi : 21 + 5 * w ≤ i) (hi2 : i < 26 + 5 * w) : FRW w x (setI x i v) := ⟨rfl, fun j hj => sI_ne (by omega), fun _ _ => rfl⟩
theorem FRW.arr {w i : Nat} {x : St} {f : Nat → Int32} (hi : 26 + 6 * w ≤ i) (hi2 : i < 31 + 6 * w) : FRW w x (setA x i f) := ⟨rfl, fun _ _ => rfl, fun j hj => sA_ne (by omega)⟩
theorem FRW.other {w u : Nat} {x y : St} {a : SA} (hf : FRW w x y) (hne : w ≠ u) (h : ShR x u a) : ShR y u a := h.same (fun i h1 h2 => hf.2.1 i (by omega)) (fun i h1 h2 => hf.2.2 i (by omega))
theorem FRW.abs {w : Nat} {x y : St} {A : AB} (hf : FRW w x y) (hw : w < 2) (hne : w ≠ x.2.2.1) (h : AbsC x A) : AbsC y A := by
  obtain ⟨⟨c1, c2, c3, c4⟩, h2, h3, h4, h5⟩ := h
  obtain ⟨f1, f2, f3⟩ := id hf
  refine ⟨⟨by rw [f1]; exact c1, by rw [f1]; exact c2, by rw [f1]; exact c3, ?_⟩, h2.same (fun i _ _ => f2 i (by omega)) (fun i _ _ => f3 i (by omega)), h3.same (f2 17 (by omega)) (fun i _ _ => f3 i (by omega)), (f2 0 (by omega)).trans h4, (f2 1 (by omega)).trans h5⟩
  rw [f1]
  exact hf.other hne c4
/-- the shore in use is changed -/
theorem FRW.cur {x y : St} {A : AB} {a : SA} (hf : FRW x.2.2.1 x y) (h : AbsC x A) (hr : ShR y x.2.2.1 a) : AbsC y (AsS A a) := by
  obtain ⟨⟨c1, c2, c3, c4⟩, h2, h3, h4, h5⟩ := h
  obtain ⟨f1, f2, f3⟩ := id hf
  refine ⟨⟨by rw [f1]; exact c1, by rw [f1]; exact c2, by rw [f1]; exact c3, ?_⟩, h2.same (fun i _ _ => f2 i (by omega)) (fun i _ _ => f3 i (by omega)), h3.same (f2 17 (by omega)) (fun i _ _ => f3 i (by omega)), (f2 0 (by omega)).trans h4, (f2 1 (by omega)).trans h5⟩
  show ShR y y.2.2.1 a
  rw [f1]
  exact hr
theorem ge0_i {n : Int32} (h : (0 : Int32) ≤ n) : ¬ n.toInt < 0 := by rw [le_i] at h; have : (0 : Int32).toInt = 0 := by decide
                                                                      omega
theorem lt0_i {n : Int32} (h : ¬ (0 : Int32) ≤ n) : n.toInt < 0 := by rw [le_i] at h; have : (0 : Int32).toInt = 0 := by decide
                                                                      omega
theorem nn0 {n : Nat} (h : ¬ n ≠ 0) : n = 0 := Classical.not_not.mp h
theorem absC_R {x : St} {A : AB} {n : Nat} (h : AbsC x A) (hn : n ≤ A.2.2.1.1) : AbsC (setI x 17 (nI n)) (AsR A (n, A.2.2.1.2)) := by
  obtain ⟨⟨c1, c2, c3, c4⟩, h2, h3, h4, h5⟩ := h
  refine ⟨⟨c1, c2, c3, c4.int (by omega)⟩, h2.int (by omega), ⟨sI_eq, fun j hj => h3.2 j (Nat.lt_of_lt_of_le hj hn)⟩, ?_, ?_⟩
  · exact (sI_ne (by omega)).trans h4
  · exact (sI_ne (by omega)).trans h5
theorem absC_take {x : St} {A : AB} {m h q : Nat} (hA : AbsC x A) : AbsC (setI (setA (setA (setA x 12 (upd (x.2.1 12) A.2.2.1.1 (nI m))) 13 (upd ((setA x 12 (upd (x.2.1 12) A.2.2.1.1 (nI m))).2.1 13) A.2.2.1.1 (nI h))) 14 (upd ((setA (setA x 12 (upd (x.2.1 12) A.2.2.1.1 (nI m))) 13 (upd ((setA x 12 (upd (x.2.1 12) A.2.2.1.1 (nI m))).2.1 13) A.2.2.1.1 (nI h))).2.1 14) A.2.2.1.1 (nI q))) 17 (nI (A.2.2.1.1 + 1))) (AsR A (A.2.2.1.1 + 1, up2 (up2 (up2 A.2.2.1.2 0 A.2.2.1.1 m) 1 A.2.2.1.1 h) 2 A.2.2.1.1 q)) := by
  generalize hy : setA (setA (setA x 12 (upd (x.2.1 12) A.2.2.1.1 (nI m))) 13 (upd ((setA x 12 (upd (x.2.1 12) A.2.2.1.1 (nI m))).2.1 13) A.2.2.1.1 (nI h))) 14 (upd ((setA (setA x 12 (upd (x.2.1 12) A.2.2.1.1 (nI m))) 13 (upd ((setA x 12 (upd (x.2.1 12) A.2.2.1.1 (nI m))).2.1 13) A.2.2.1.1 (nI h))).2.1 14) A.2.2.1.1 (nI q)) = y
  have y1 : y.1 = x.1 := by rw [← hy]; rfl
  have y2 : y.2.2 = x.2.2 := by rw [← hy]; rfl
  have y3 : ∀ i, i ≠ 12 → i ≠ 13 → i ≠ 14 → y.2.1 i = x.2.1 i := fun i h1 h2 h3 => by rw [← hy, sA_ne h3, sA_ne h2, sA_ne h1]
  have y12 : y.2.1 12 = upd (x.2.1 12) A.2.2.1.1 (nI m) := by rw [← hy, sA_ne (by decide), sA_ne (by decide), sA_eq]
  have y13 : y.2.1 13 = upd (x.2.1 13) A.2.2.1.1 (nI h) := by rw [← hy, sA_ne (by decide), sA_eq, sA_ne (by decide)]
  have y14 : y.2.1 14 = upd (x.2.1 14) A.2.2.1.1 (nI q) := by rw [← hy, sA_eq, sA_ne (by decide), sA_ne (by decide)]
  obtain ⟨⟨c1, c2, c3, c4⟩, h2, h3, h4, h5⟩ := hA
  have d4 : ShR (setI y 17 (nI (A.2.2.1.1 + 1))) x.2.2.1 A.1 := c4.same (fun i g1 g2 => (sI_ne (by omega)).trans (congrFun y1 i)) (fun i g1 g2 => y3 i (by omega) (by omega) (by omega))
  have e2 : (setI y 17 (nI (A.2.2.1.1 + 1))).2.2 = x.2.2 := y2
  refine ⟨⟨by rw [e2]; exact c1, by rw [e2]; exact c2, by rw [e2]; exact c3, by rw [e2]; exact d4⟩, h2.same (fun i g1 g2 => (sI_ne (by omega)).trans (congrFun y1 i)) (fun i g1 g2 => y3 i (by omega) (by omega) (by omega)), ⟨sI_eq, fun j hj => ?_⟩, ((sI_ne (by omega)).trans (congrFun y1 0)).trans h4, ((sI_ne (by omega)).trans (congrFun y1 1)).trans h5⟩
  show y.2.1 12 j = nI (up2 (up2 (up2 A.2.2.1.2 0 A.2.2.1.1 m) 1 A.2.2.1.1 h) 2 A.2.2.1.1 q 0 j) ∧ y.2.1 13 j = nI (up2 (up2 (up2 A.2.2.1.2 0 A.2.2.1.1 m) 1 A.2.2.1.1 h) 2 A.2.2.1.1 q 1 j) ∧ y.2.1 14 j = nI (up2 (up2 (up2 A.2.2.1.2 0 A.2.2.1.1 m) 1 A.2.2.1.1 h) 2 A.2.2.1.1 q 2 j)
  rw [y12, y13, y14]
  by_cases e : j = A.2.2.1.1
  · subst e
    rw [upd_eq, upd_eq, upd_eq]
    simp [up2]
  · rw [upd_ne e, upd_ne e, upd_ne e]
    simp only [up2, e, and_false, ↓reduceIte]
    exact h3.2 j (by have : j < A.2.2.1.1 + 1 := hj
                     omega)
theorem absC_lose {x : St} {A : AB} {k : Nat} (h : AbsC x A) (hk : k < 4) : AbsC (setI x (2 + 3 * k) (b2i false)) (AsH A (up1 A.2.1.1 k 0, A.2.1.2)) := by
  obtain ⟨⟨c1, c2, c3, c4⟩, h2, h3, h4, h5⟩ := h
  refine ⟨⟨c1, c2, c3, c4.int (by omega)⟩, fun u hu => ?_, h3.int (by omega), (sI_ne (by omega)).trans h4, (sI_ne (by omega)).trans h5⟩
  obtain ⟨g1, g2⟩ := h2 u hu
  by_cases e : u = k
  · subst e
    refine ⟨?_, fun hn => absurd (if_pos rfl) hn⟩
    have e0 : up1 A.2.1.1 u 0 u = 0 := if_pos rfl
    have e1 : decide (up1 A.2.1.1 u 0 u ≠ 0) = false := decide_eq_false (fun q => q e0)
    exact sI_eq.trans (congrArg b2i e1).symm
  · have e1 : up1 A.2.1.1 k 0 u = A.2.1.1 u := if_neg e
    refine ⟨?_, fun hn => ?_⟩
    · show upd x.1 _ _ _ = b2i (decide (up1 A.2.1.1 k 0 u ≠ 0))
      rw [e1, upd_ne (by omega)]; exact g1
    · have hn2 : A.2.1.1 u ≠ 0 := by have hn3 : up1 A.2.1.1 k 0 u ≠ 0 := hn
                                     rw [e1] at hn3; exact hn3
      obtain ⟨q1, q2, q3⟩ := g2 hn2
      refine ⟨?_, ?_, q3⟩
      · show upd x.1 _ _ _ = nI (up1 A.2.1.1 k 0 u - 1)
        rw [e1, upd_ne (by omega)]; exact q1
      · exact (sI_ne (by omega)).trans q2
theorem absC_put {x : St} {A : AB} {k i : Nat} {v : Int32} (h : AbsC x A) (hk : k < 4) : AbsC (setA x (6 + k) (upd (x.2.1 (6 + k)) i v)) (AsH A (putH A.2.1 k i v)) := by
  obtain ⟨⟨c1, c2, c3, c4⟩, h2, h3, h4, h5⟩ := h
  refine ⟨⟨c1, c2, c3, c4.arr (by omega)⟩, fun u hu => ?_, h3.arr (by omega), h4, h5⟩
  obtain ⟨g1, g2⟩ := h2 u hu
  refine ⟨g1, fun hn => ?_⟩
  obtain ⟨q1, q2, q3⟩ := g2 hn
  refine ⟨q1, q2, fun j hj => ?_⟩
  show va_up x.2.1 _ _ (6 + u) j = (if u = k ∧ j = i then v else A.2.1.2.2 u j)
  by_cases e : u = k
  · subst e
    rw [vup_eq]
    by_cases e2 : j = i
    · subst e2; rw [upd_eq, if_pos ⟨rfl, rfl⟩]
    · rw [upd_ne e2, if_neg (fun q => e2 q.2)]; exact q3 j hj
  · rw [vup_ne (by omega), if_neg (fun q => e q.1)]; exact q3 j hj
theorem absC_renew {x y : St} {A : AB} {k ln nn : Nat} (h : AbsC x A) (hk : k < 4) (hc : y.2.2 = x.2.2) (hI : ∀ i, i ≠ 2 + 3 * k → i ≠ 3 + 3 * k → i ≠ 4 + 3 * k → y.1 i = x.1 i) (hAr : ∀ i, i ≠ 6 + k → y.2.1 i = x.2.1 i) (h1 : y.1 (2 + 3 * k) = b2i true) (h2 : y.1 (3 + 3 * k) = nI ln) (h3 : y.1 (4 + 3 * k) = nI nn) (h4 : ∀ j, j < nn → y.2.1 (6 + k) j = 0) : AbsC y (AsH A (up1 A.2.1.1 k (ln + 1), up1 A.2.1.2.1 k nn, fun u j => if u = k then 0 else A.2.1.2.2 u j)) := by
  obtain ⟨⟨c1, c2, c3, c4⟩, g2, g3, g4, g5⟩ := h
  refine ⟨⟨by rw [hc]; exact c1, by rw [hc]; exact c2, by rw [hc]; exact c3, ?_⟩, fun u hu => ?_, g3.same (hI 17 (by omega) (by omega) (by omega)) (fun i _ _ => hAr i (by omega)), (hI 0 (by omega) (by omega) (by omega)).trans g4, (hI 1 (by omega) (by omega) (by omega)).trans g5⟩
  · rw [hc]; exact c4.same (fun i _ _ => hI i (by omega) (by omega) (by omega)) (fun i _ _ => hAr i (by omega))
  · obtain ⟨p1, p2⟩ := g2 u hu
    by_cases e : u = k
    · subst e
      have e1 : up1 A.2.1.1 u (ln + 1) u = ln + 1 := if_pos rfl
      have e2 : up1 A.2.1.2.1 u nn u = nn := if_pos rfl
      refine ⟨?_, fun _ => ⟨?_, ?_, fun j hj => ?_⟩⟩
      · show _ = b2i (decide (up1 A.2.1.1 u (ln + 1) u ≠ 0)); rw [e1, h1]; simp
      · show _ = nI (up1 A.2.1.1 u (ln + 1) u - 1); rw [e1]; exact h2
      · show _ = nI (up1 A.2.1.2.1 u nn u); rw [e2]; exact h3
      · show _ = (if u = u then 0 else _); rw [if_pos rfl]; exact h4 j (by have hj2 : j < up1 A.2.1.2.1 u nn u := hj
                                                                           rw [e2] at hj2; exact hj2)
    · have e1 : up1 A.2.1.1 k (ln + 1) u = A.2.1.1 u := if_neg e
      have e2 : up1 A.2.1.2.1 k nn u = A.2.1.2.1 u := if_neg e
      refine ⟨?_, fun hn => ?_⟩
      · show _ = b2i (decide (up1 A.2.1.1 k (ln + 1) u ≠ 0)); rw [e1, hI _ (by omega) (by omega) (by omega)]; exact p1
      · have hn2 : up1 A.2.1.1 k (ln + 1) u ≠ 0 := hn
        rw [e1] at hn2
        obtain ⟨q1, q2, q3⟩ := p2 hn2
        refine ⟨?_, ?_, fun j hj => ?_⟩
        · show _ = nI (up1 A.2.1.1 k (ln + 1) u - 1); rw [e1, hI _ (by omega) (by omega) (by omega)]; exact q1
        · show _ = nI (up1 A.2.1.2.1 k nn u); rw [e2, hI _ (by omega) (by omega) (by omega)]; exact q2
        · show _ = (if u = k then 0 else _); rw [if_neg e, hAr _ (by omega)]; exact q3 j (by have hj2 : j < up1 A.2.1.2.1 k nn u := hj
                                                                                             rw [e2] at hj2; exact hj2)
