theorem mp_t {q : Int32} {P : Nat} (hP : P < 1000) (h1 : ¬ q < 0) (h2 : ¬ nI P ≤ q) : 0 ≤ q.toInt ∧ q.toInt < (P : Int) := by
  rw [lt_i] at h1; rw [le_i, nI_i (by omega)] at h2
  have : (0 : Int32).toInt = 0 := by decide
  omega
theorem mp_f1 {q : Int32} {P : Nat} (h1 : q < 0) : ¬ (0 ≤ q.toInt ∧ q.toInt < (P : Int)) := by
  rw [lt_i] at h1
  have : (0 : Int32).toInt = 0 := by decide
  omega
theorem mp_f2 {q : Int32} {P : Nat} (hP : P < 1000) (h2 : nI P ≤ q) : ¬ (0 ≤ q.toInt ∧ q.toInt < (P : Int)) := by
  rw [le_i, nI_i (by omega)] at h2
  omega
theorem shr1 : ∀ t, t < 64 → nI t >>> (nI 1 &&& 31) = nI (t / 2) := by decide +kernel
theorem and1 : ∀ t, t < 64 → nI t &&& nI 1 = nI (t % 2) := by decide +kernel
theorem pop_half : ∀ t, t < 64 → pop t = t % 2 + pop (t / 2) := by decide +kernel
theorem remP {P p s : Nat} (hp : p < P) (hs : s ≤ P) (h6 : P < 1000) : nI (p + s) - nI (p + s) / nI P * nI P = nI (rng P p s) := by
  rw [pk_rem (by omega) (by omega) (by omega)]
  congr 1
  unfold rng
  split
  · exact Nat.mod_eq_of_lt (by assumption)
  · rw [Nat.mod_eq_sub_mod (by omega), Nat.mod_eq_of_lt (by omega)]
theorem rng_P {P p s : Nat} (hp : p < P) (hs : s ≤ P) : rng P p s < P := by unfold rng; split <;> omega
theorem remP2 {P p s : Nat} (hp : p < P) (hs : s < P) (h6 : P < 1000) : nI (rng P p s + 1) - nI (rng P p s + 1) / nI P * nI P = nI (rng P p (s + 1)) := by
  have hr := rng_P hp (Nat.le_of_lt hs)
  rw [remP hr (by omega) h6]
  congr 1
  unfold rng
  split <;> split <;> (try split) <;> omega
theorem rng_full {P p : Nat} (hp : p < P) : rng P p P = p := by unfold rng; rw [if_neg (by omega)]; omega
def F13 (x y : Mt) : Prop := y.1 = x.1 ∧ ∀ t, t ≠ 13 → y.2 t = x.2 t
theorem F13.rf {x : Mt} : F13 x x := ⟨rfl, fun _ _ => rfl⟩
theorem F13.tr {x y z : Mt} (h : F13 x y) (g : F13 y z) : F13 x z := ⟨g.1.trans h.1, fun t ht => (g.2 t ht).trans (h.2 t ht)⟩
theorem F13.arr {x : Mt} {f : Nat → Int32} : F13 x (mA x 13 f) := ⟨rfl, fun t ht => mA_ne ht⟩
theorem MdR.ext {x : Mt} {a b : SA} (h : MdR x a) (h1 : ∀ i, b.1 i = a.1 i) (h2 : ∀ t, t < 2 → ∀ j, j < a.1 3 → b.2 t j = a.2 t j) (h3 : ∀ t, 2 ≤ t → t < 5 → ∀ j, j < a.1 4 → b.2 t j = a.2 t j) : MdR x b := by
  obtain ⟨g0, g1, g2, g3, g4, g5, g6⟩ := h
  refine ⟨by rw [h1]; exact g0, by rw [h1]; exact g1, by rw [h1]; exact g2, by rw [h1]; exact g3, by rw [h1]; exact g4, fun j hj => ?_, fun j hj => ?_⟩
  · rw [h1] at hj
    rw [h2 0 (by omega) j hj, h2 1 (by omega) j hj]; exact g5 j hj
  · rw [h1] at hj
    rw [h3 2 (by omega) (by omega) j hj, h3 3 (by omega) (by omega) j hj, h3 4 (by omega) (by omega) j hj]; exact g6 j hj
theorem tid0M {x : Mt} {a : SA} {h : Nat} (hr : MdR x a) : MdR x (tidA a h 0) := hr.ext (fun _ => rfl) (fun t ht j hj => if_neg (by omega)) (fun t h1 h2 j hj => by
  show (if t = 3 then (if j < 0 then _ else _) else _) = _
  split
  · rename_i e; subst e; exact if_neg (Nat.not_lt_zero j)
  · rfl)
theorem tid_stepM {x : Mt} {i h : Nat} {a : SA} (hr : MdR x (tidA a h i)) : MdR (mA x 13 (upd (x.2 13) i (nI (carry a (a.2 3 i) (a.2 2 i) h)))) (tidA a h (i + 1)) := by
  have g := hr.setA (t := 3) (i := i) (v := carry a (a.2 3 i) (a.2 2 i) h) (by omega)
  refine MdR.ext g (fun _ => rfl) (fun t ht j hj => ?_) (fun t h1 h2 j hj => ?_)
  · show (if t = 3 then _ else _) = (if _ then _ else if t = 3 then _ else _)
    rw [if_neg (by omega), if_neg (by omega), if_neg (by omega)]
  · show (if t = 3 then (if j < i + 1 then _ else _) else _) = (if t = 3 ∧ j = i then _ else if t = 3 then (if j < i then _ else _) else _)
    by_cases e : t = 3
    · subst e
      by_cases e2 : j = i
      · subst e2; rw [if_pos rfl, if_pos (by omega), if_pos ⟨rfl, rfl⟩]
      · by_cases e3 : j < i
        · rw [if_pos rfl, if_pos (by omega), if_neg (by omega), if_pos rfl, if_pos e3]
        · rw [if_pos rfl, if_neg (by omega), if_neg (by omega), if_pos rfl, if_neg e3]
    · rw [if_neg e, if_neg (fun q => e q.1), if_neg e]
theorem tid_endM {x : Mt} {h : Nat} {a : SA} (hr : MdR x (tidA a h (a.1 4))) : MdR x (tided a h) := hr.ext (fun _ => rfl) (fun t ht j hj => by
  show (if t = 3 then _ else _) = (if t = 3 then _ else _)
  rw [if_neg (by omega), if_neg (by omega)]) (fun t h1 h2 j hj => by
  show (if t = 3 then _ else _) = (if t = 3 then (if j < a.1 4 then _ else _) else _)
  have hj2 : j < a.1 4 := hj
  split
  · first | rfl | exact (if_pos hj2).symm
  · rfl)
theorem MH.same {x y : Mt} {H : (Nat → Nat) × (Nat → Nat) × (Nat → Nat → Int32)} (h : MH x H) (h2 : ∀ t, 2 ≤ t → t < 5 → y.2 t = x.2 t) : MH y H := by
  intro k hk
  rw [h2 2 (by omega) (by omega), h2 3 (by omega) (by omega), h2 4 (by omega) (by omega)]
  exact h k hk
theorem MR.same {x y : Mt} {R : Nat × (Nat → Nat → Nat)} (h : MR x R) (hI : y.1 29 = x.1 29) (h2 : ∀ t, 30 ≤ t → t < 33 → y.2 t = x.2 t) : MR y R := by
  refine ⟨hI.trans h.1, fun j hj => ?_⟩
  rw [h2 30 (by omega) (by omega), h2 31 (by omega) (by omega), h2 32 (by omega) (by omega)]
  exact h.2 j hj
theorem F13.abs {x y : Mt} {A : AB} {a : SA} (hf : F13 x y) (h : AbsM x A) (hr : MdR y a) : AbsM y (AsS A a) := by
  obtain ⟨h1, h2, h3, h4, h5⟩ := h
  obtain ⟨f1, f2⟩ := hf
  exact ⟨hr, h2.same (fun t h1 h2 => f2 t (by omega)), h3.same (congrFun f1 29) (fun t h1 h2 => f2 t (by omega)), (congrFun f1 1).trans h4, (congrFun f1 0).trans h5⟩
theorem absM_R {x : Mt} {A : AB} {n : Nat} (h : AbsM x A) (hn : n ≤ A.2.2.1.1) : AbsM (mI x 29 (nI n)) (AsR A (n, A.2.2.1.2)) := by
  obtain ⟨h1, h2, h3, h4, h5⟩ := h
  refine ⟨h1.int (by omega), h2, ⟨mI_eq, fun j hj => h3.2 j (Nat.lt_of_lt_of_le hj hn)⟩, (mI_ne (by omega)).trans h4, (mI_ne (by omega)).trans h5⟩
theorem absM_take {x : Mt} {A : AB} {m h q : Nat} (hA : AbsM x A) : AbsM (mI (mA (mA (mA x 30 (upd (x.2 30) A.2.2.1.1 (nI m))) 31 (upd ((mA x 30 (upd (x.2 30) A.2.2.1.1 (nI m))).2 31) A.2.2.1.1 (nI h))) 32 (upd ((mA (mA x 30 (upd (x.2 30) A.2.2.1.1 (nI m))) 31 (upd ((mA x 30 (upd (x.2 30) A.2.2.1.1 (nI m))).2 31) A.2.2.1.1 (nI h))).2 32) A.2.2.1.1 (nI q))) 29 (nI (A.2.2.1.1 + 1))) (AsR A (A.2.2.1.1 + 1, up2 (up2 (up2 A.2.2.1.2 0 A.2.2.1.1 m) 1 A.2.2.1.1 h) 2 A.2.2.1.1 q)) := by
  generalize hy : mA (mA (mA x 30 (upd (x.2 30) A.2.2.1.1 (nI m))) 31 (upd ((mA x 30 (upd (x.2 30) A.2.2.1.1 (nI m))).2 31) A.2.2.1.1 (nI h))) 32 (upd ((mA (mA x 30 (upd (x.2 30) A.2.2.1.1 (nI m))) 31 (upd ((mA x 30 (upd (x.2 30) A.2.2.1.1 (nI m))).2 31) A.2.2.1.1 (nI h))).2 32) A.2.2.1.1 (nI q)) = y
  have y1 : y.1 = x.1 := by rw [← hy]; rfl
  have y3 : ∀ i, i ≠ 30 → i ≠ 31 → i ≠ 32 → y.2 i = x.2 i := fun i h1 h2 h3 => by rw [← hy, mA_ne h3, mA_ne h2, mA_ne h1]
  have y12 : y.2 30 = upd (x.2 30) A.2.2.1.1 (nI m) := by rw [← hy, mA_ne (by decide), mA_ne (by decide), mA_eq]
  have y13 : y.2 31 = upd (x.2 31) A.2.2.1.1 (nI h) := by rw [← hy, mA_ne (by decide), mA_eq, mA_ne (by decide)]
  have y14 : y.2 32 = upd (x.2 32) A.2.2.1.1 (nI q) := by rw [← hy, mA_eq, mA_ne (by decide), mA_ne (by decide)]
  obtain ⟨h1, h2, h3, h4, h5⟩ := hA
  obtain ⟨g0, g1, g2, g3, g4, g5, g6⟩ := h1
  refine ⟨⟨?_, ?_, ?_, ?_, ?_, fun j hj => ?_, fun j hj => ?_⟩, h2.same (fun i _ _ => y3 i (by omega) (by omega) (by omega)), ⟨mI_eq, fun j hj => ?_⟩, ((mI_ne (by omega)).trans (congrFun y1 1)).trans h4, ((mI_ne (by omega)).trans (congrFun y1 0)).trans h5⟩
  · exact ((mI_ne (by omega)).trans (congrFun y1 _)).trans g0
  · exact ((mI_ne (by omega)).trans (congrFun y1 _)).trans g1
  · exact ((mI_ne (by omega)).trans (congrFun y1 _)).trans g2
  · exact ((mI_ne (by omega)).trans (congrFun y1 _)).trans g3
  · exact ((mI_ne (by omega)).trans (congrFun y1 _)).trans g4
  · show y.2 10 j = _ ∧ y.2 11 j = _; rw [y3 10 (by omega) (by omega) (by omega), y3 11 (by omega) (by omega) (by omega)]; exact g5 j hj
  · show y.2 12 j = _ ∧ y.2 13 j = _ ∧ y.2 14 j = _; rw [y3 12 (by omega) (by omega) (by omega), y3 13 (by omega) (by omega) (by omega), y3 14 (by omega) (by omega) (by omega)]; exact g6 j hj
  · show y.2 30 j = nI (up2 (up2 (up2 A.2.2.1.2 0 A.2.2.1.1 m) 1 A.2.2.1.1 h) 2 A.2.2.1.1 q 0 j) ∧ y.2 31 j = nI (up2 (up2 (up2 A.2.2.1.2 0 A.2.2.1.1 m) 1 A.2.2.1.1 h) 2 A.2.2.1.1 q 1 j) ∧ y.2 32 j = nI (up2 (up2 (up2 A.2.2.1.2 0 A.2.2.1.1 m) 1 A.2.2.1.1 h) 2 A.2.2.1.1 q 2 j)
    rw [y12, y13, y14]
    by_cases e : j = A.2.2.1.1
    · subst e
      rw [upd_eq, upd_eq, upd_eq]
      simp [up2]
    · rw [upd_ne e, upd_ne e, upd_ne e]
      simp only [up2, e, and_false, ↓reduceIte]
      exact h3.2 j (by have : j < A.2.2.1.1 + 1 := hj
                       omega)
theorem absM_lose {x : Mt} {A : AB} {k : Nat} (h : AbsM x A) (hk : k < 4) : AbsM (mA x 2 (upd (x.2 2) k (-9))) (AsH A (up1 A.2.1.1 k 0, A.2.1.2)) := by
  obtain ⟨h1, h2, h3, h4, h5⟩ := h
  refine ⟨h1.arr (by omega), fun u hu => ?_, h3.arr (by omega), h4, h5⟩
  obtain ⟨g1, g2⟩ := h2 u hu
  by_cases e : u = k
  · subst e
    have e0 : up1 A.2.1.1 u 0 u = 0 := if_pos rfl
    refine ⟨?_, fun hn => absurd e0 hn⟩
    show va_up x.2 2 _ 2 u = (if up1 A.2.1.1 u 0 u = 0 then (-9) else _)
    exact (congrFun mA_eq u).trans (upd_eq.trans (if_pos e0).symm)
  · have e1 : up1 A.2.1.1 k 0 u = A.2.1.1 u := if_neg e
    refine ⟨?_, fun hn => ?_⟩
    · show va_up x.2 2 _ 2 u = (if up1 A.2.1.1 k 0 u = 0 then (-9) else nI (up1 A.2.1.1 k 0 u - 1))
      rw [e1]; exact (congrFun mA_eq u).trans ((upd_ne e).trans g1)
    · have hn2 : up1 A.2.1.1 k 0 u ≠ 0 := hn
      rw [e1] at hn2
      obtain ⟨q1, q2⟩ := g2 hn2
      exact ⟨(congrFun (mA_ne (by decide)) u).trans q1, fun j hj => (congrFun (mA_ne (by decide)) _).trans (q2 j hj)⟩
theorem absM_put {x : Mt} {A : AB} {k i : Nat} {v : Int32} (h : AbsM x A) (hk : k < 4) (hi : i < 60) (h60 : ∀ u, u < 4 → A.2.1.2.1 u ≤ 60) : AbsM (mA x 4 (upd (x.2 4) (60 * k + i) v)) (AsH A (putH A.2.1 k i v)) := by
  obtain ⟨h1, h2, h3, h4, h5⟩ := h
  refine ⟨h1.arr (by omega), fun u hu => ?_, h3.arr (by omega), h4, h5⟩
  obtain ⟨g1, g2⟩ := h2 u hu
  refine ⟨(congrFun (mA_ne (by decide)) u).trans g1, fun hn => ?_⟩
  obtain ⟨q1, q2⟩ := g2 hn
  refine ⟨(congrFun (mA_ne (by decide)) u).trans q1, fun j hj => ?_⟩
  have h6 := h60 u hu
  have hj2 : j < A.2.1.2.1 u := hj
  show (mA x 4 (upd (x.2 4) (60 * k + i) v)).2 4 (60 * u + j) = (if u = k ∧ j = i then v else A.2.1.2.2 u j)
  refine (congrFun mA_eq (60 * u + j)).trans ?_
  by_cases e : u = k ∧ j = i
  · rw [if_pos e, e.1, e.2]; exact upd_eq
  · rw [if_neg e]; exact (upd_ne (by omega)).trans (q2 j hj)
theorem absM_renew {x y : Mt} {A : AB} {k ln nn : Nat} (h : AbsM x A) (hk : k < 4) (hnn : nn ≤ 60) (hI : y.1 = x.1) (hAr : ∀ t, t ≠ 2 → t ≠ 3 → t ≠ 4 → y.2 t = x.2 t) (h2 : y.2 2 = upd (x.2 2) k (nI ln)) (h3 : y.2 3 = upd (x.2 3) k (nI nn)) (h4 : ∀ j, j < 60 → y.2 4 (60 * k + j) = 0) (h5 : ∀ c, c < 60 * k ∨ 60 * k + 60 ≤ c → y.2 4 c = x.2 4 c) (h60 : ∀ u, u < 4 → A.2.1.2.1 u ≤ 60) : AbsM y (AsH A (up1 A.2.1.1 k (ln + 1), up1 A.2.1.2.1 k nn, fun u j => if u = k then 0 else A.2.1.2.2 u j)) := by
  obtain ⟨m1, m2, m3, m4, m5⟩ := h
  obtain ⟨g0, g1, g2, g3, g4, g5, g6⟩ := m1
  refine ⟨⟨(congrFun hI _).trans g0, (congrFun hI _).trans g1, (congrFun hI _).trans g2, (congrFun hI _).trans g3, (congrFun hI _).trans g4, fun j hj => ?_, fun j hj => ?_⟩, fun u hu => ?_, m3.same (congrFun hI _) (fun t h1 h2 => hAr t (by omega) (by omega) (by omega)), (congrFun hI _).trans m4, (congrFun hI _).trans m5⟩
  · rw [hAr 10 (by omega) (by omega) (by omega), hAr 11 (by omega) (by omega) (by omega)]; exact g5 j hj
  · rw [hAr 12 (by omega) (by omega) (by omega), hAr 13 (by omega) (by omega) (by omega), hAr 14 (by omega) (by omega) (by omega)]; exact g6 j hj
  · obtain ⟨p1, p2⟩ := m2 u hu
    by_cases e : u = k
    · subst e
      have e1 : up1 A.2.1.1 u (ln + 1) u = ln + 1 := if_pos rfl
      have e2 : up1 A.2.1.2.1 u nn u = nn := if_pos rfl
      refine ⟨?_, fun _ => ⟨?_, fun j hj => ?_⟩⟩
      · show _ = (if up1 A.2.1.1 u (ln + 1) u = 0 then (-9) else nI (up1 A.2.1.1 u (ln + 1) u - 1)); rw [e1, h2, upd_eq, if_neg (by omega)]; rfl
      · show _ = nI (up1 A.2.1.2.1 u nn u); rw [e2, h3, upd_eq]
      · show _ = (if u = u then 0 else _); rw [if_pos rfl]; exact h4 j (by have hj2 : j < up1 A.2.1.2.1 u nn u := hj
                                                                           rw [e2] at hj2; omega)
    · have e1 : up1 A.2.1.1 k (ln + 1) u = A.2.1.1 u := if_neg e
      have e2 : up1 A.2.1.2.1 k nn u = A.2.1.2.1 u := if_neg e
      have h6 := h60 u hu
      refine ⟨?_, fun hn => ?_⟩
      · show _ = (if up1 A.2.1.1 k (ln + 1) u = 0 then (-9) else nI (up1 A.2.1.1 k (ln + 1) u - 1)); rw [e1, h2, upd_ne e]; exact p1
      · have hn2 : up1 A.2.1.1 k (ln + 1) u ≠ 0 := hn
        rw [e1] at hn2
        obtain ⟨q1, q2⟩ := p2 hn2
        refine ⟨?_, fun j hj => ?_⟩
        · show _ = nI (up1 A.2.1.2.1 k nn u); rw [e2, h3, upd_ne e]; exact q1
        · have hj2 : j < up1 A.2.1.2.1 k nn u := hj
          rw [e2] at hj2
          show _ = (if u = k then 0 else _); rw [if_neg e, h5 _ (by omega)]; exact q2 j hj2
theorem carried_j {P p j h : Nat} {g : Nat → Nat} (hp : p < P) (hj : j < P) (hw : g p < h) (hc : h ≤ g (rng P p (1 + j))) : j + 1 < P := by
  by_cases e : j + 1 = P
  · exfalso
    rw [show 1 + j = P by omega, rng_full hp] at hc
    omega
  · omega
theorem carried_u {P p j h : Nat} {g : Nat → Nat} (hp : p < P) (hj : j < P) (hw : g p < h) (hc : h ≤ g (rng P p (1 + j))) (hu : nw P g h p (P - 1 - j) (1 + j) = nxt P g h p) : nw P g h p (P - 1 - (j + 1)) (1 + (j + 1)) = nxt P g h p := by
  have := carried_j hp hj hw hc
  rw [← hu, show P - 1 - j = (P - 1 - (j + 1)) + 1 by omega, nw_miss (by omega)]
  rfl
theorem carried_r {P p j h : Nat} {g : Nat → Nat} (hp : p < P) (hj : j < P) (hw : g p < h) (hc : g (rng P p (1 + j)) < h) (hu : nw P g h p (P - 1 - j) (1 + j) = nxt P g h p) : rng P p (1 + j) = nxt P g h p := by
  by_cases e : j + 1 = P
  · rw [← hu, show P - 1 - j = 0 by omega, show 1 + j = P by omega, rng_full hp]; rfl
  · rw [← hu, show P - 1 - j = (P - 1 - j - 1) + 1 by omega, nw_hit hc]

def rm_X6_within : Room := ({ frames := 0, cells := 0, slots := 0, locals := 0 })
set_option maxRecDepth 20000 in
theorem c_X6_within (l : Launch) (Z : EC) (x : Mt) (v lo hi : Int32) (a b : Int) (ha : lo.toInt = a) (hb : hi.toInt = b) : MIz l Z (wM Z) yX6_within cX6_within 3 rm_X6_within [.int v, .int lo, .int hi] x (fun b1 x1 => b1 = decide (a ≤ v.toInt ∧ v.toInt ≤ b) ∧ x = x1) := by
  refine MIz_of (own := RX6) (L0 := [some (.int v), some (.int lo), some (.int hi)]) (by decide) rfl (Nat.le_of_ble_eq_true rfl) ⟨rfl, rfl, rfl, trivial⟩ ?_
  intro Γ C E
  refine J_iload_n C dX6_within_0 rfl rfl ?_
  refine J_iload_n C dX6_within_1 rfl rfl ?_
  refine J_icmp_lt C (tgt := 14) dX6_within_2 (by decide) (fun c2 => ?_) (fun c2 => ?_)
  · skip
    refine J_iconst C (v := nI 0) dX6_within_14 (by decide) ?_
    exact E (b := false) dX6_within_15 (⟨by simp only [lt_i, ha, hb] at *; simp; omega, rfl⟩)
  · skip
    refine J_iload_n C dX6_within_5 rfl rfl ?_
    refine J_iload_n C dX6_within_6 rfl rfl ?_
    refine J_icmp_gt C (tgt := 14) dX6_within_7 (by decide) (fun c7 => ?_) (fun c7 => ?_)
    · skip
      refine J_iconst C (v := nI 0) dX6_within_14 (by decide) ?_
      exact E (b := false) dX6_within_15 (⟨by simp only [lt_i, ha, hb] at *; simp; omega, rfl⟩)
    · skip
      refine J_iconst C (v := nI 1) dX6_within_10 (by decide) ?_
      refine J_goto (tgt := 15) C dX6_within_11 (by decide) ?_
      exact E (b := true) dX6_within_15 (⟨by simp only [lt_i, ha, hb] at *; simp; omega, rfl⟩)
def rm_X6_isDigit : Room := ({ frames := 1, cells := 0, slots := 0, locals := 22 })
set_option maxRecDepth 20000 in
theorem c_X6_isDigit (l : Launch) (Z : EC) (x : Mt) (v : Int32) : MIz l Z (wM Z) yX6_isDigit cX6_isDigit 1 rm_X6_isDigit [.int v] x (fun b x1 => b = decide (dB v) ∧ x = x1) := by
  refine MIz_of (own := RX6) (L0 := [some (.int v)]) (by decide) rfl (Nat.le_of_ble_eq_true rfl) ⟨rfl, trivial⟩ ?_
  intro Γ C E
  refine J_iload_n C dX6_isDigit_0 rfl rfl ?_
  refine J_iconst C (v := nI 0) dX6_isDigit_1 (by decide) ?_
  refine J_bipush C (v := nI 9) dX6_isDigit_2 (by decide) ?_
  refine J_callSz C (As := [.int v, .int (nI 0), .int (nI 9)]) (c_X6_within l Z _ _ _ _ (0) (9) (by decide) (by decide)) cw_RX6_70 wd_8_21 rfl rfl (Nat.le_of_ble_eq_true rfl) rfl rfl (Nat.le_of_ble_eq_true rfl) (Nat.le_of_ble_eq_true rfl) dX6_isDigit_4 (fun b4 x4 hp4 => ?_)
  obtain ⟨rfl, rfl⟩ := hp4
  exact E dX6_isDigit_7 (⟨rfl, rfl⟩)
def rm_X6_isSheet : Room := ({ frames := 1, cells := 0, slots := 0, locals := 22 })
set_option maxRecDepth 20000 in
theorem c_X6_isSheet (l : Launch) (Z : EC) (x : Mt) (v : Int32) : MIz l Z (wM Z) yX6_isSheet cX6_isSheet 1 rm_X6_isSheet [.int v] x (fun b x1 => b = decide (hB v) ∧ x = x1) := by
  refine MIz_of (own := RX6) (L0 := [some (.int v)]) (by decide) rfl (Nat.le_of_ble_eq_true rfl) ⟨rfl, trivial⟩ ?_
  intro Γ C E
  refine J_iload_n C dX6_isSheet_0 rfl rfl ?_
  refine J_iconst C (v := nI 0) dX6_isSheet_1 (by decide) ?_
  refine J_iconst C (v := nI 3) dX6_isSheet_2 (by decide) ?_
  refine J_callSz C (As := [.int v, .int (nI 0), .int (nI 3)]) (c_X6_within l Z _ _ _ _ (0) (3) (by decide) (by decide)) cw_RX6_70 wd_8_21 rfl rfl (Nat.le_of_ble_eq_true rfl) rfl rfl (Nat.le_of_ble_eq_true rfl) (Nat.le_of_ble_eq_true rfl) dX6_isSheet_3 (fun b3 x3 hp3 => ?_)
  obtain ⟨rfl, rfl⟩ := hp3
  exact E dX6_isSheet_6 (⟨rfl, rfl⟩)
def rm_X6_isSort : Room := ({ frames := 1, cells := 0, slots := 0, locals := 22 })
set_option maxRecDepth 20000 in
theorem c_X6_isSort (l : Launch) (Z : EC) (x : Mt) (v : Int32) : MIz l Z (wM Z) yX6_isSort cX6_isSort 1 rm_X6_isSort [.int v] x (fun b x1 => b = decide (lB v) ∧ x = x1) := by
  refine MIz_of (own := RX6) (L0 := [some (.int v)]) (by decide) rfl (Nat.le_of_ble_eq_true rfl) ⟨rfl, trivial⟩ ?_
  intro Γ C E
  refine J_iload_n C dX6_isSort_0 rfl rfl ?_
  refine J_iconst C (v := nI 0) dX6_isSort_1 (by decide) ?_
  refine J_iconst C (v := nI 2) dX6_isSort_2 (by decide) ?_
  refine J_callSz C (As := [.int v, .int (nI 0), .int (nI 2)]) (c_X6_within l Z _ _ _ _ (0) (2) (by decide) (by decide)) cw_RX6_70 wd_8_21 rfl rfl (Nat.le_of_ble_eq_true rfl) rfl rfl (Nat.le_of_ble_eq_true rfl) (Nat.le_of_ble_eq_true rfl) dX6_isSort_3 (fun b3 x3 hp3 => ?_)
  obtain ⟨rfl, rfl⟩ := hp3
  exact E dX6_isSort_6 (⟨rfl, rfl⟩)
def rm_X6_isPool : Room := ({ frames := 0, cells := 0, slots := 0, locals := 0 })
set_option maxRecDepth 20000 in
theorem c_X6_isPool (l : Launch) (Z : EC) (x : Mt) (a : SA) (hr : MdR x a) (ok : SOK a) (q : Int32) : MIz l Z (wM Z) yX6_isPool cX6_isPool 2 rm_X6_isPool [.ref (Z.2.1 0), .int q] x (fun b x1 => b = decide (pB a q) ∧ x = x1) := by
  obtain ⟨ok0, ok1, ok2, ok3, ok4, ok5, ok6, ok7⟩ := id ok
  refine MIz_of (own := RX6) (L0 := [some (.ref (Z.2.1 0)), some (.int q)]) (by decide) rfl (Nat.le_of_ble_eq_true rfl) ⟨rfl, rfl, trivial⟩ ?_
  intro Γ C E
  refine J_iload_n C dX6_isPool_0 rfl rfl ?_
  refine J_if_lt C (tgt := 16) dX6_isPool_1 (by decide) (fun c1 => ?_) (fun c1 => ?_)
  · skip
    refine J_iconst C (v := nI 0) dX6_isPool_16 (by decide) ?_
    exact E (b := false) dX6_isPool_17 (⟨(decide_eq_false (mp_f1 c1)).symm, rfl⟩)
  · skip
    refine J_iload_n C dX6_isPool_4 rfl rfl ?_
    refine J_aload_n C dX6_isPool_5 rfl rfl ?_
    refine G6n_pools hr C wd_10_18 dX6_isPool_6 ?_
    refine J_icmp_ge C (tgt := 16) dX6_isPool_9 (by decide) (fun c9 => ?_) (fun c9 => ?_)
    · skip
      refine J_iconst C (v := nI 0) dX6_isPool_16 (by decide) ?_
      exact E (b := false) dX6_isPool_17 (⟨(decide_eq_false (mp_f2 (by omega) c9)).symm, rfl⟩)
    · skip
      refine J_iconst C (v := nI 1) dX6_isPool_12 (by decide) ?_
      refine J_goto (tgt := 17) C dX6_isPool_13 (by decide) ?_
      exact E (b := true) dX6_isPool_17 (⟨(decide_eq_true (mp_t (by omega) c1 c9)).symm, rfl⟩)
def rm_X6_isMember : Room := ({ frames := 0, cells := 0, slots := 0, locals := 0 })
set_option maxRecDepth 20000 in
theorem c_X6_isMember (l : Launch) (Z : EC) (x : Mt) (a : SA) (hr : MdR x a) (ok : SOK a) (q : Int32) : MIz l Z (wM Z) yX6_isMember cX6_isMember 2 rm_X6_isMember [.ref (Z.2.1 0), .int q] x (fun b x1 => b = decide (mB a q) ∧ x = x1) := by
  obtain ⟨ok0, ok1, ok2, ok3, ok4, ok5, ok6, ok7⟩ := id ok
  refine MIz_of (own := RX6) (L0 := [some (.ref (Z.2.1 0)), some (.int q)]) (by decide) rfl (Nat.le_of_ble_eq_true rfl) ⟨rfl, rfl, trivial⟩ ?_
  intro Γ C E
  refine J_iload_n C dX6_isMember_0 rfl rfl ?_
  refine J_if_lt C (tgt := 16) dX6_isMember_1 (by decide) (fun c1 => ?_) (fun c1 => ?_)
  · skip
    refine J_iconst C (v := nI 0) dX6_isMember_16 (by decide) ?_
    exact E (b := false) dX6_isMember_17 (⟨(decide_eq_false (mp_f1 c1)).symm, rfl⟩)
  · skip
    refine J_iload_n C dX6_isMember_4 rfl rfl ?_
    refine J_aload_n C dX6_isMember_5 rfl rfl ?_
    refine G6n_members hr C wd_8_16 dX6_isMember_6 ?_
    refine J_icmp_ge C (tgt := 16) dX6_isMember_9 (by decide) (fun c9 => ?_) (fun c9 => ?_)
    · skip
      refine J_iconst C (v := nI 0) dX6_isMember_16 (by decide) ?_
      exact E (b := false) dX6_isMember_17 (⟨(decide_eq_false (mp_f2 (by omega) c9)).symm, rfl⟩)
    · skip
      refine J_iconst C (v := nI 1) dX6_isMember_12 (by decide) ?_
      refine J_goto (tgt := 17) C dX6_isMember_13 (by decide) ?_
      exact E (b := true) dX6_isMember_17 (⟨(decide_eq_true (mp_t (by omega) c1 c9)).symm, rfl⟩)
def rm_X6_sitters : Room := ({ frames := 0, cells := 0, slots := 0, locals := 0 })
set_option maxRecDepth 20000 in
theorem c_X6_sitters (l : Launch) (Z : EC) (x : Mt) (a : SA) (hr : MdR x a) (ok : SOK a) (q : Nat) (hq : q < 10) : MIi l Z (wM Z) yX6_sitters cX6_sitters 4 rm_X6_sitters [.ref (Z.2.1 0), .int (nI q)] x (fun r x1 => r = nI (sit a q) ∧ x = x1) := by
  obtain ⟨ok0, ok1, ok2, ok3, ok4, ok5, ok6, ok7⟩ := id ok
  refine MIi_of (own := RX6) (L0 := [some (.ref (Z.2.1 0)), some (.int (nI q)), none, none]) (by decide) rfl (Nat.le_of_ble_eq_true rfl) ⟨rfl, rfl, trivial⟩ ?_
  intro Γ C E
  refine J_iconst C (v := nI 0) dX6_sitters_0 (by decide) ?_
  refine J_istore_n C (L' := [some (.ref (Z.2.1 0)), some (.int (nI q)), some (.int (nI 0)), none]) dX6_sitters_1 rfl (by decide) rfl rfl ?_
  refine J_iconst C (v := nI 0) dX6_sitters_2 (by decide) ?_
  refine J_istore_n C (L' := [some (.ref (Z.2.1 0)), some (.int (nI q)), some (.int (nI 0)), some (.int (nI 0))]) dX6_sitters_3 rfl (by decide) rfl rfl ?_
  have lp4 : ∀ (f : Nat) (i : Nat), (i ≤ a.1 4) → (a.1 4 - i < f) →  J Γ x 4 [some (.ref (Z.2.1 0)), some (.int (nI q)), some (.int (nI (bits (fun m => a.2 3 m == q) i))), some (.int (nI i))] [] := by
    intro f
    induction f with
    | zero =>
      intro i hi hf
      omega
    | succ f ih4 =>
      intro i hi hf
      refine J_iload_n C dX6_sitters_4 rfl rfl ?_
      refine J_aload_n C dX6_sitters_5 rfl rfl ?_
      refine G6n_members hr C wd_8_16 dX6_sitters_6 ?_
      refine J_icmp_ge_n C (tgt := 38) dX6_sitters_9 (by decide) (by omega) (by omega) (fun c9 => ?_) (fun c9 => ?_)
      · skip
        refine J_iload_n C dX6_sitters_38 rfl rfl ?_
        exact E dX6_sitters_39 (⟨by rw [show i = a.1 4 by omega]; rfl, rfl⟩)
      · skip
        refine J_iload_n C dX6_sitters_12 rfl rfl ?_
        have h6 := ok6 i (by omega)
        refine J_aload_n C dX6_sitters_13 rfl rfl ?_
        refine G6_poolOf C wd_4_0 dX6_sitters_14 ?_
        refine J_iload_n C dX6_sitters_17 rfl rfl ?_
        refine LMn_poolOf hr ok C (by omega) dX6_sitters_18 ?_
        refine J_iload_n C dX6_sitters_19 rfl rfl ?_
        refine J_icmp_ne_n C (tgt := 29) dX6_sitters_20 (by decide) (by omega) (by omega) (fun c20 => ?_) (fun c20 => ?_)
        · skip
          refine J_iconst C (v := nI 0) dX6_sitters_29 (by decide) ?_
          refine J_ior C (v := nI (bits (fun m => a.2 3 m == q) (i + 1))) dX6_sitters_30 (or_no (p := (fun m => a.2 3 m == q)) (by simpa using c20)) ?_
          refine J_istore_n C (L' := [some (.ref (Z.2.1 0)), some (.int (nI q)), some (.int (nI (bits (fun m => a.2 3 m == q) (i + 1)))), some (.int (nI i))]) dX6_sitters_31 rfl (by decide) rfl rfl ?_
          refine J_iinc C (v := nI (i + 1)) (L' := [some (.ref (Z.2.1 0)), some (.int (nI q)), some (.int (nI (bits (fun m => a.2 3 m == q) (i + 1)))), some (.int (nI (i + 1)))]) dX6_sitters_32 rfl (nI_1 _) (by decide) rfl rfl ?_
          refine J_goto (tgt := 4) C dX6_sitters_35 (by decide) ?_
          refine J_drop ?_ (ih4 (i + 1) (by omega) (by omega))
          exact ⟨rfl, rfl, rfl, rfl, trivial⟩
        · skip
          refine J_iconst C (v := nI 1) dX6_sitters_23 (by decide) ?_
          refine J_iload_n C dX6_sitters_24 rfl rfl ?_
          refine J_ishl C (v := nI (2 ^ i)) dX6_sitters_25 (sh1 _ (by omega)) ?_
          refine J_goto (tgt := 30) C dX6_sitters_26 (by decide) ?_
          refine J_ior C (v := nI (bits (fun m => a.2 3 m == q) (i + 1))) dX6_sitters_30 (bits_or (p := (fun m => a.2 3 m == q)) (by simpa using c20)) ?_
          refine J_istore_n C (L' := [some (.ref (Z.2.1 0)), some (.int (nI q)), some (.int (nI (bits (fun m => a.2 3 m == q) (i + 1)))), some (.int (nI i))]) dX6_sitters_31 rfl (by decide) rfl rfl ?_
          refine J_iinc C (v := nI (i + 1)) (L' := [some (.ref (Z.2.1 0)), some (.int (nI q)), some (.int (nI (bits (fun m => a.2 3 m == q) (i + 1)))), some (.int (nI (i + 1)))]) dX6_sitters_32 rfl (nI_1 _) (by decide) rfl rfl ?_
          refine J_goto (tgt := 4) C dX6_sitters_35 (by decide) ?_
          refine J_drop ?_ (ih4 (i + 1) (by omega) (by omega))
          exact ⟨rfl, rfl, rfl, rfl, trivial⟩
  refine J_drop ?_ (lp4 (a.1 4 + 1) 0 (by omega) (by omega))
  exact ⟨rfl, rfl, rfl, rfl, trivial⟩
def rm_X6_size : Room := ({ frames := 0, cells := 0, slots := 0, locals := 0 })
set_option maxRecDepth 20000 in
theorem c_X6_size (l : Launch) (Z : EC) (x : Mt) (s : Nat) (hs : s < 64) : MIi l Z (wM Z) yX6_size cX6_size 3 rm_X6_size [.int (nI s)] x (fun r x1 => r = nI (pop s) ∧ x = x1) := by
  refine MIi_of (own := RX6) (L0 := [some (.int (nI s)), none, none]) (by decide) rfl (Nat.le_of_ble_eq_true rfl) ⟨rfl, trivial⟩ ?_
  intro Γ C E
  refine J_iconst C (v := nI 0) dX6_size_0 (by decide) ?_
  refine J_istore_n C (L' := [some (.int (nI s)), some (.int (nI 0)), none]) dX6_size_1 rfl (by decide) rfl rfl ?_
  refine J_iload_n C dX6_size_2 rfl rfl ?_
  refine J_istore_n C (L' := [some (.int (nI s)), some (.int (nI 0)), some (.int (nI s))]) dX6_size_3 rfl (by decide) rfl rfl ?_
  have lp4 : ∀ (f : Nat) (m t : Nat), (t < 64) → (m + pop t = pop s) → (t < f) →  J Γ x 4 [some (.int (nI s)), some (.int (nI m)), some (.int (nI t))] [] := by
    intro f
    induction f with
    | zero =>
      intro m t ht hv hf
      omega
    | succ f ih4 =>
      intro m t ht hv hf
      have hps := pop_le s
      refine J_iload_n C dX6_size_4 rfl rfl ?_
      refine J_if_le_n C (tgt := 21) dX6_size_5 (by decide) (by omega) (fun c5 => ?_) (fun c5 => ?_)
      · skip
        refine J_iload_n C dX6_size_21 rfl rfl ?_
        exact E dX6_size_22 (⟨by rw [← hv, c5]; rfl, rfl⟩)
      · skip
        refine J_iload_n C dX6_size_8 rfl rfl ?_
        refine J_iload_n C dX6_size_9 rfl rfl ?_
        refine J_iconst C (v := nI 1) dX6_size_10 (by decide) ?_
        refine J_iand C (v := nI (t % 2)) dX6_size_11 (and1 t ht) ?_
        refine J_iadd C (v := nI (m + (t % 2))) dX6_size_12 (nI_add _ _) ?_
        refine J_istore_n C (L' := [some (.int (nI s)), some (.int (nI (m + (t % 2)))), some (.int (nI t))]) dX6_size_13 rfl (by decide) rfl rfl ?_
        refine J_iload_n C dX6_size_14 rfl rfl ?_
        refine J_iconst C (v := nI 1) dX6_size_15 (by decide) ?_
        refine J_ishr C (v := nI (t / 2)) dX6_size_16 (shr1 t ht) ?_
        refine J_istore_n C (L' := [some (.int (nI s)), some (.int (nI (m + (t % 2)))), some (.int (nI (t / 2)))]) dX6_size_17 rfl (by decide) rfl rfl ?_
        refine J_goto (tgt := 4) C dX6_size_18 (by decide) ?_
        refine J_drop ?_ (ih4 (m + t % 2) (t / 2) (by omega) (by have := pop_half t ht; omega) (by omega))
        exact ⟨rfl, rfl, rfl, trivial⟩
  refine J_drop ?_ (lp4 (s + 1) 0 s hs (Nat.zero_add _) (by omega))
  exact ⟨rfl, rfl, rfl, trivial⟩
def rm_X6_farOf : Room := ({ frames := 0, cells := 0, slots := 0, locals := 0 })
set_option maxRecDepth 20000 in
theorem c_X6_farOf (l : Launch) (Z : EC) (x : Mt) (a : SA) (hr : MdR x a) (ok : SOK a) (m : Nat) (hm : m < a.1 4) : MIi l Z (wM Z) yX6_farOf cX6_farOf 2 rm_X6_farOf [.ref (Z.2.1 0), .int (nI m)] x (fun r x1 => r = nI (stp (a.1 0) (a.2 2 m)) ∧ x = x1) := by
  obtain ⟨ok0, ok1, ok2, ok3, ok4, ok5, ok6, ok7⟩ := id ok
  have gm := ok6 m hm
  have hs1 := ok7 (by omega)
  refine MIi_of (own := RX6) (L0 := [some (.ref (Z.2.1 0)), some (.int (nI m))]) (by decide) rfl (Nat.le_of_ble_eq_true rfl) ⟨rfl, rfl, trivial⟩ ?_
  intro Γ C E
  refine J_aload_n C dX6_farOf_0 rfl rfl ?_
  refine G6_kind C wd_3_23 dX6_farOf_1 ?_
  refine J_iload_n C dX6_farOf_4 rfl rfl ?_
  refine LMn_kind hr ok C (by omega) dX6_farOf_5 ?_
  refine J_if_ne_n C (tgt := 16) dX6_farOf_6 (by decide) (by omega) (fun c6 => ?_) (fun c6 => ?_)
  · skip
    refine J_aload_n C dX6_farOf_16 rfl rfl ?_
    refine G6_kind C wd_3_23 dX6_farOf_17 ?_
    refine J_iload_n C dX6_farOf_20 rfl rfl ?_
    refine LMn_kind hr ok C (by omega) dX6_farOf_21 ?_
    refine J_iconst C (v := nI 1) dX6_farOf_22 (by decide) ?_
    refine J_icmp_ne_n C (tgt := 35) dX6_farOf_23 (by decide) (by omega) (by omega) (fun c23 => ?_) (fun c23 => ?_)
    · skip
      refine J_aload_n C dX6_farOf_35 rfl rfl ?_
      refine G6n_stream hr C wd_10_15 dX6_farOf_36 ?_
      refine J_iconst C (v := nI 2) dX6_farOf_39 (by decide) ?_
      refine J_idiv C (v := nI ((a.1 0) / 2)) dX6_farOf_40 (nI_ne0 (by omega) (by omega)) (pk_div (by omega) (by omega) (by omega)) ?_
      exact E dX6_farOf_41 (⟨by unfold stp; rw [if_neg c6, if_neg c23], rfl⟩)
    · skip
      refine J_aload_n C dX6_farOf_26 rfl rfl ?_
      refine G6n_stream hr C wd_10_15 dX6_farOf_27 ?_
      refine J_iconst C (v := nI 1) dX6_farOf_30 (by decide) ?_
      refine J_isub C (v := nI ((a.1 0) - 1)) dX6_farOf_31 (pk_sub (a := a.1 0) (b := 1) (by omega)) ?_
      refine J_goto (tgt := 41) C dX6_farOf_32 (by decide) ?_
      exact E dX6_farOf_41 (⟨by unfold stp; rw [if_neg c6, if_pos c23], rfl⟩)
  · skip
    refine J_aload_n C dX6_farOf_9 rfl rfl ?_
    refine G6n_stream hr C wd_10_15 dX6_farOf_10 ?_
    refine J_goto (tgt := 41) C dX6_farOf_13 (by decide) ?_
    exact E dX6_farOf_41 (⟨by unfold stp; rw [if_pos c6], rfl⟩)
def rm_X6_washedBy : Room := ({ frames := 0, cells := 0, slots := 0, locals := 0 })
set_option maxRecDepth 20000 in
theorem c_X6_washedBy (l : Launch) (Z : EC) (x : Mt) (a : SA) (hr : MdR x a) (ok : SOK a) (h : Nat) (hh : h < 100) : MIi l Z (wM Z) yX6_washedBy cX6_washedBy 4 rm_X6_washedBy [.ref (Z.2.1 0), .int (nI h)] x (fun r x1 => r = nI (wet a h) ∧ x = x1) := by
  obtain ⟨ok0, ok1, ok2, ok3, ok4, ok5, ok6, ok7⟩ := id ok
  refine MIi_of (own := RX6) (L0 := [some (.ref (Z.2.1 0)), some (.int (nI h)), none, none]) (by decide) rfl (Nat.le_of_ble_eq_true rfl) ⟨rfl, rfl, trivial⟩ ?_
  intro Γ C E
  refine J_iconst C (v := nI 0) dX6_washedBy_0 (by decide) ?_
  refine J_istore_n C (L' := [some (.ref (Z.2.1 0)), some (.int (nI h)), some (.int (nI 0)), none]) dX6_washedBy_1 rfl (by decide) rfl rfl ?_
  refine J_iconst C (v := nI 0) dX6_washedBy_2 (by decide) ?_
  refine J_istore_n C (L' := [some (.ref (Z.2.1 0)), some (.int (nI h)), some (.int (nI 0)), some (.int (nI 0))]) dX6_washedBy_3 rfl (by decide) rfl rfl ?_
  have lp4 : ∀ (f : Nat) (i : Nat), (i ≤ a.1 3) → (a.1 3 - i < f) →  J Γ x 4 [some (.ref (Z.2.1 0)), some (.int (nI h)), some (.int (nI (bits (fun q => decide (a.2 0 q < h)) i))), some (.int (nI i))] [] := by
    intro f
    induction f with
    | zero =>
      intro i hi hf
      omega
    | succ f ih4 =>
      intro i hi hf
      refine J_iload_n C dX6_washedBy_4 rfl rfl ?_
      refine J_aload_n C dX6_washedBy_5 rfl rfl ?_
      refine G6n_pools hr C wd_10_18 dX6_washedBy_6 ?_
      refine J_icmp_ge_n C (tgt := 38) dX6_washedBy_9 (by decide) (by omega) (by omega) (fun c9 => ?_) (fun c9 => ?_)
      · skip
        refine J_iload_n C dX6_washedBy_38 rfl rfl ?_
        exact E dX6_washedBy_39 (⟨by rw [show i = a.1 3 by omega]; rfl, rfl⟩)
      · skip
        refine J_iload_n C dX6_washedBy_12 rfl rfl ?_
        have h5 := ok5 i (by omega)
        refine J_aload_n C dX6_washedBy_13 rfl rfl ?_
        refine G6_height C wd_3_21 dX6_washedBy_14 ?_
        refine J_iload_n C dX6_washedBy_17 rfl rfl ?_
        refine LMn_height hr ok C (by omega) dX6_washedBy_18 ?_
        refine J_iload_n C dX6_washedBy_19 rfl rfl ?_
        refine J_icmp_ge_n C (tgt := 29) dX6_washedBy_20 (by decide) (by omega) (by omega) (fun c20 => ?_) (fun c20 => ?_)
        · skip
          refine J_iconst C (v := nI 0) dX6_washedBy_29 (by decide) ?_
          refine J_ior C (v := nI (bits (fun q => decide (a.2 0 q < h)) (i + 1))) dX6_washedBy_30 (or_no (p := (fun q => decide (a.2 0 q < h))) (by simp; omega)) ?_
          refine J_istore_n C (L' := [some (.ref (Z.2.1 0)), some (.int (nI h)), some (.int (nI (bits (fun q => decide (a.2 0 q < h)) (i + 1)))), some (.int (nI i))]) dX6_washedBy_31 rfl (by decide) rfl rfl ?_
          refine J_iinc C (v := nI (i + 1)) (L' := [some (.ref (Z.2.1 0)), some (.int (nI h)), some (.int (nI (bits (fun q => decide (a.2 0 q < h)) (i + 1)))), some (.int (nI (i + 1)))]) dX6_washedBy_32 rfl (nI_1 _) (by decide) rfl rfl ?_
          refine J_goto (tgt := 4) C dX6_washedBy_35 (by decide) ?_
          refine J_drop ?_ (ih4 (i + 1) (by omega) (by omega))
          exact ⟨rfl, rfl, rfl, rfl, trivial⟩
        · skip
          refine J_iconst C (v := nI 1) dX6_washedBy_23 (by decide) ?_
          refine J_iload_n C dX6_washedBy_24 rfl rfl ?_
          refine J_ishl C (v := nI (2 ^ i)) dX6_washedBy_25 (sh1 _ (by omega)) ?_
          refine J_goto (tgt := 30) C dX6_washedBy_26 (by decide) ?_
          refine J_ior C (v := nI (bits (fun q => decide (a.2 0 q < h)) (i + 1))) dX6_washedBy_30 (bits_or (p := (fun q => decide (a.2 0 q < h))) (decide_eq_true c20)) ?_
          refine J_istore_n C (L' := [some (.ref (Z.2.1 0)), some (.int (nI h)), some (.int (nI (bits (fun q => decide (a.2 0 q < h)) (i + 1)))), some (.int (nI i))]) dX6_washedBy_31 rfl (by decide) rfl rfl ?_
          refine J_iinc C (v := nI (i + 1)) (L' := [some (.ref (Z.2.1 0)), some (.int (nI h)), some (.int (nI (bits (fun q => decide (a.2 0 q < h)) (i + 1)))), some (.int (nI (i + 1)))]) dX6_washedBy_32 rfl (nI_1 _) (by decide) rfl rfl ?_
          refine J_goto (tgt := 4) C dX6_washedBy_35 (by decide) ?_
          refine J_drop ?_ (ih4 (i + 1) (by omega) (by omega))
          exact ⟨rfl, rfl, rfl, rfl, trivial⟩
  refine J_drop ?_ (lp4 (a.1 3 + 1) 0 (by omega) (by omega))
  exact ⟨rfl, rfl, rfl, rfl, trivial⟩
def rm_X6_carriedFrom : Room := ({ frames := 0, cells := 0, slots := 0, locals := 0 })
set_option maxRecDepth 20000 in
theorem c_X6_carriedFrom (l : Launch) (Z : EC) (x : Mt) (a : SA) (hr : MdR x a) (ok : SOK a) (q n h : Nat) (hq : q < a.1 3) (hn : n ≤ 3) (hh : h < 100) : MIi l Z (wM Z) yX6_carriedFrom cX6_carriedFrom 6 rm_X6_carriedFrom [.ref (Z.2.1 0), .int (nI q), .int (nI n), .int (nI h)] x (fun r x1 => r = nI (carryP (a.1 3) (a.2 0) n q h) ∧ x = x1) := by
  obtain ⟨ok0, ok1, ok2, ok3, ok4, ok5, ok6, ok7⟩ := id ok
  have gq := ok5 q hq
  refine MIi_of (own := RX6) (L0 := [some (.ref (Z.2.1 0)), some (.int (nI q)), some (.int (nI n)), some (.int (nI h)), none, none]) (by decide) rfl (Nat.le_of_ble_eq_true rfl) ⟨rfl, rfl, rfl, rfl, trivial⟩ ?_
  intro Γ C E
  refine J_aload_n C dX6_carriedFrom_0 rfl rfl ?_
  refine G6_height C wd_3_21 dX6_carriedFrom_1 ?_
  refine J_iload_n C dX6_carriedFrom_4 rfl rfl ?_
  refine LMn_height hr ok C (by omega) dX6_carriedFrom_5 ?_
  refine J_iload_n C dX6_carriedFrom_6 rfl rfl ?_
  refine J_icmp_lt_n C (tgt := 12) dX6_carriedFrom_7 (by decide) (by omega) (by omega) (fun c7 => ?_) (fun c7 => ?_)
  · skip
    refine J_iload_n C dX6_carriedFrom_12 rfl rfl ?_
    refine J_istore C (L' := [some (.ref (Z.2.1 0)), some (.int (nI q)), some (.int (nI n)), some (.int (nI h)), some (.int (nI q)), none]) dX6_carriedFrom_13 (by decide) rfl rfl ?_
    refine J_iconst C (v := nI 0) dX6_carriedFrom_15 (by decide) ?_
    refine J_istore C (L' := [some (.ref (Z.2.1 0)), some (.int (nI q)), some (.int (nI n)), some (.int (nI h)), some (.int (nI q)), some (.int (nI 0))]) dX6_carriedFrom_16 (by decide) rfl rfl ?_
    have lp18 : ∀ (f : Nat) (p s : Nat), (p < a.1 3) → (s ≤ n) → (a.2 0 p < h) → (itn (nxt (a.1 3) (a.2 0) h) (n - s) p = itn (nxt (a.1 3) (a.2 0) h) n q) → (n - s < f) →  J Γ x 18 [some (.ref (Z.2.1 0)), some (.int (nI q)), some (.int (nI n)), some (.int (nI h)), some (.int (nI p)), some (.int (nI s))] [] := by
      intro f
      induction f with
      | zero =>
        intro p s hp hs hw hv hf
        omega
      | succ f ih18 =>
        intro p s hp hs hw hv hf
        refine J_iload C dX6_carriedFrom_18 rfl ?_
        refine J_iload_n C dX6_carriedFrom_20 rfl rfl ?_
        refine J_icmp_ge_n C (tgt := 66) dX6_carriedFrom_21 (by decide) (by omega) (by omega) (fun c21 => ?_) (fun c21 => ?_)
        · skip
          refine J_iload C dX6_carriedFrom_66 rfl ?_
          exact E dX6_carriedFrom_68 (⟨by unfold carryP; rw [if_pos c7, ← hv, show n - s = 0 by omega]; rfl, rfl⟩)
        · skip
          refine J_iload C dX6_carriedFrom_24 rfl ?_
          refine J_iconst C (v := nI 1) dX6_carriedFrom_26 (by decide) ?_
          refine J_iadd C (v := nI (p + 1)) dX6_carriedFrom_27 (nI_add _ _) ?_
          refine J_aload_n C dX6_carriedFrom_28 rfl rfl ?_
          refine G6n_pools hr C wd_10_18 dX6_carriedFrom_29 ?_
          refine J_irem C (v := nI (rng (a.1 3) p (1 + 0))) dX6_carriedFrom_32 (nI_ne0 (by omega) (by omega)) (remP (s := 1) hp (by omega) (by omega)) ?_
          refine J_istore C (L' := [some (.ref (Z.2.1 0)), some (.int (nI q)), some (.int (nI n)), some (.int (nI h)), some (.int (nI (rng (a.1 3) p (1 + 0)))), some (.int (nI s))]) dX6_carriedFrom_33 (by decide) rfl rfl ?_
          have lp35 : ∀ (f : Nat) (j : Nat), (j < a.1 3) → (nw (a.1 3) (a.2 0) h p (a.1 3 - 1 - j) (1 + j) = nxt (a.1 3) (a.2 0) h p) → (a.1 3 - j < f) →  J Γ x 35 [some (.ref (Z.2.1 0)), some (.int (nI q)), some (.int (nI n)), some (.int (nI h)), some (.int (nI (rng (a.1 3) p (1 + j)))), some (.int (nI s))] [] := by
            intro f
            induction f with
            | zero =>
              intro j hj hu hf2
              omega
            | succ f ih35 =>
              intro j hj hu hf2
              have hrg := rng_P (P := a.1 3) (p := p) (s := 1 + j) hp (by omega)
              have g5 := ok5 _ hrg
              refine J_aload_n C dX6_carriedFrom_35 rfl rfl ?_
              refine G6_height C wd_3_21 dX6_carriedFrom_36 ?_
              refine J_iload C dX6_carriedFrom_39 rfl ?_
              refine LMn_height hr ok C (by omega) dX6_carriedFrom_41 ?_
              refine J_iload_n C dX6_carriedFrom_42 rfl rfl ?_
              refine J_icmp_lt_n C (tgt := 60) dX6_carriedFrom_43 (by decide) (by omega) (by omega) (fun c43 => ?_) (fun c43 => ?_)
              · skip
                have hrn := carried_r hp hj hw c43 hu
                refine J_iinc C (v := nI (s + 1)) (L' := [some (.ref (Z.2.1 0)), some (.int (nI q)), some (.int (nI n)), some (.int (nI h)), some (.int (nI (rng (a.1 3) p (1 + j)))), some (.int (nI (s + 1)))]) dX6_carriedFrom_60 rfl (nI_1 _) (by decide) rfl rfl ?_
                refine J_goto (tgt := 18) C dX6_carriedFrom_63 (by decide) ?_
                refine J_drop ?_ (ih18 (rng (a.1 3) p (1 + j)) (s + 1) hrg (by omega) (by omega) (by rw [← hv, hrn, show n - s = (n - (s + 1)) + 1 by omega]; rfl) (by omega))
                exact ⟨rfl, rfl, rfl, rfl, rfl, rfl, trivial⟩
              · skip
                refine J_iload C dX6_carriedFrom_46 rfl ?_
                refine J_iconst C (v := nI 1) dX6_carriedFrom_48 (by decide) ?_
                refine J_iadd C (v := nI ((rng (a.1 3) p (1 + j)) + 1)) dX6_carriedFrom_49 (nI_add _ _) ?_
                refine J_aload_n C dX6_carriedFrom_50 rfl rfl ?_
                refine G6n_pools hr C wd_10_18 dX6_carriedFrom_51 ?_
                refine J_irem C (v := nI (rng (a.1 3) p (1 + (j + 1)))) dX6_carriedFrom_54 (nI_ne0 (by omega) (by omega)) (remP2 (s := 1 + j) hp (by have := carried_j hp hj hw c43; omega) (by omega)) ?_
                refine J_istore C (L' := [some (.ref (Z.2.1 0)), some (.int (nI q)), some (.int (nI n)), some (.int (nI h)), some (.int (nI (rng (a.1 3) p (1 + (j + 1))))), some (.int (nI s))]) dX6_carriedFrom_55 (by decide) rfl rfl ?_
                refine J_goto (tgt := 35) C dX6_carriedFrom_57 (by decide) ?_
                refine J_drop ?_ (ih35 (j + 1) (carried_j hp hj hw c43) (carried_u hp hj hw c43 hu) (by omega))
                exact ⟨rfl, rfl, rfl, rfl, rfl, rfl, trivial⟩
          refine J_drop ?_ (lp35 (a.1 3 + 1) 0 (by omega) rfl (by omega))
          exact ⟨rfl, rfl, rfl, rfl, rfl, rfl, trivial⟩
    refine J_drop ?_ (lp18 (n + 1) q 0 hq (by omega) c7 rfl (by omega))
    exact ⟨rfl, rfl, rfl, rfl, rfl, rfl, trivial⟩
  · skip
    refine J_iload_n C dX6_carriedFrom_10 rfl rfl ?_
    exact E dX6_carriedFrom_11 (⟨by unfold carryP; rw [if_neg (by omega)], rfl⟩)
def rm_X6_carryAll : Room := ({ frames := 1, cells := 0, slots := 0, locals := 25 })
set_option maxRecDepth 20000 in
theorem c_X6_carryAll (l : Launch) (Z : EC) (x : Mt) (a : SA) (hr : MdR x a) (ok : SOK a) (h : Nat) (hh : h < 100) : MIi l Z (wM Z) yX6_carryAll cX6_carryAll 5 rm_X6_carryAll [.ref (Z.2.1 0), .int (nI h)] x (fun r x1 => r = nI (mvd a h) ∧ MdR x1 (tided a h) ∧ F13 x x1) := by
  obtain ⟨ok0, ok1, ok2, ok3, ok4, ok5, ok6, ok7⟩ := id ok
  refine MIi_of (own := RX6) (L0 := [some (.ref (Z.2.1 0)), some (.int (nI h)), none, none, none]) (by decide) rfl (Nat.le_of_ble_eq_true rfl) ⟨rfl, rfl, trivial⟩ ?_
  intro Γ C E
  refine J_iconst C (v := nI 0) dX6_carryAll_0 (by decide) ?_
  refine J_istore_n C (L' := [some (.ref (Z.2.1 0)), some (.int (nI h)), some (.int (nI 0)), none, none]) dX6_carryAll_1 rfl (by decide) rfl rfl ?_
  refine J_iconst C (v := nI 0) dX6_carryAll_2 (by decide) ?_
  refine J_istore_n C (L' := [some (.ref (Z.2.1 0)), some (.int (nI h)), some (.int (nI 0)), some (.int (nI 0)), none]) dX6_carryAll_3 rfl (by decide) rfl rfl ?_
  have lp4 : ∀ (f : Nat) (i : Nat) (y : Mt), (i ≤ a.1 4) → (F13 x y) → (MdR y (tidA a h i)) → (a.1 4 - i < f) →  J Γ y 4 [some (.ref (Z.2.1 0)), some (.int (nI h)), some (.int (nI (cnt (fun m => decide (carry a (a.2 3 m) (a.2 2 m) h ≠ a.2 3 m)) i))), some (.int (nI i)), none] [] := by
    intro f
    induction f with
    | zero =>
      intro i y hi hyf hyr hf
      omega
    | succ f ih4 =>
      intro i y hi hyf hyr hf
      have e4 : (tidA a h i).1 4 = a.1 4 := rfl
      have e3 : (tidA a h i).1 3 = a.1 3 := rfl
      have es := tid_seat a h i
      have hcn := cnt_le (fun m => decide (carry a (a.2 3 m) (a.2 2 m) h ≠ a.2 3 m)) i
      refine J_iload_n C dX6_carryAll_4 rfl rfl ?_
      refine J_aload_n C dX6_carryAll_5 rfl rfl ?_
      refine G6n_members hyr C wd_8_16 dX6_carryAll_6 ?_
      refine J_icmp_ge_n C (tgt := 63) dX6_carryAll_9 (by decide) (by omega) (by omega) (fun c9 => ?_) (fun c9 => ?_)
      · skip
        refine J_iload_n C dX6_carryAll_63 rfl rfl ?_
        exact E dX6_carryAll_64 (⟨by rw [show i = a.1 4 by omega]; rfl, tid_endM ((show i = a.1 4 by omega) ▸ hyr), hyf⟩)
      · skip
        have g6 := ok6 i (by omega)
        have hs1 := ok7 (by omega)
        have hst := stp_le (k := a.2 2 i) ok0
        have hcl : carry a (a.2 3 i) (a.2 2 i) h < a.1 3 := carry_lt g6.2.1
        refine J_aload_n C dX6_carryAll_12 rfl rfl ?_
        refine J_aload_n C dX6_carryAll_13 rfl rfl ?_
        refine G6_poolOf C wd_4_0 dX6_carryAll_14 ?_
        refine J_iload_n C dX6_carryAll_17 rfl rfl ?_
        refine LMn_poolOf hyr (tid_ok ok h i) C (by omega) dX6_carryAll_18 ?_
        refine J_aload_n C dX6_carryAll_19 rfl rfl ?_
        refine J_iload_n C dX6_carryAll_20 rfl rfl ?_
        refine J_callVi C (q0 := 0) (ci := 6) (N := 33) (As := [.int (nI i)]) (c_X6_farOf l Z _ (tidA a h i) hyr (tid_ok ok h i) _ (show i < (tidA a h i).1 4 by omega)) cw_RX6_157 wd_13_18 wd_13_19 rfl rfl rfl rfl (Nat.le_of_ble_eq_true rfl) rfl rfl (Nat.le_of_ble_eq_true rfl) (Nat.le_of_ble_eq_true rfl) dX6_carryAll_21 (fun r21 x21 hp21 => ?_)
        obtain ⟨rfl, rfl⟩ := hp21
        refine J_iload_n C dX6_carryAll_24 rfl rfl ?_
        refine J_callVi C (q0 := 0) (ci := 6) (N := 33) (As := [.int (nI ((tidA a h i).2 3 i)), .int (nI (stp ((tidA a h i).1 0) ((tidA a h i).2 2 i))), .int (nI h)]) (c_X6_carriedFrom l Z _ (tidA a h i) hyr (tid_ok ok h i) _ _ h (show (tidA a h i).2 3 i < (tidA a h i).1 3 by omega) hst hh) cw_RX6_166 wd_18_8 wd_18_9 rfl rfl rfl rfl (Nat.le_of_ble_eq_true rfl) rfl rfl (Nat.le_of_ble_eq_true rfl) (Nat.le_of_ble_eq_true rfl) dX6_carryAll_25 (fun r25 x25 hp25 => ?_)
        obtain ⟨hv25, rfl⟩ := hp25
        have hv25 : r25 = nI (carry a (a.2 3 i) (a.2 2 i) h) := hv25.trans (congrArg nI (tid_carry a h i))
        subst hv25
        refine J_istore C (L' := [some (.ref (Z.2.1 0)), some (.int (nI h)), some (.int (nI (cnt (fun m => decide (carry a (a.2 3 m) (a.2 2 m) h ≠ a.2 3 m)) i))), some (.int (nI i)), some (.int (nI (carry a (a.2 3 i) (a.2 2 i) h)))]) dX6_carryAll_28 (by decide) rfl rfl ?_
        refine J_iload_n C dX6_carryAll_30 rfl rfl ?_
        refine J_iload C dX6_carryAll_31 rfl ?_
        refine J_aload_n C dX6_carryAll_33 rfl rfl ?_
        refine G6_poolOf C wd_4_0 dX6_carryAll_34 ?_
        refine J_iload_n C dX6_carryAll_37 rfl rfl ?_
        refine LMn_poolOf hyr (tid_ok ok h i) C (by omega) dX6_carryAll_38 ?_
        refine J_icmp_ne_n C (tgt := 46) dX6_carryAll_39 (by decide) (by omega) (by omega) (fun c39 => ?_) (fun c39 => ?_)
        · skip
          refine J_iconst C (v := nI 1) dX6_carryAll_46 (by decide) ?_
          refine J_iadd C (v := nI (cnt (fun m => decide (carry a (a.2 3 m) (a.2 2 m) h ≠ a.2 3 m)) (i + 1))) dX6_carryAll_47 (by rw [cnt_yes (by simp; omega)]; exact nI_add _ 1) ?_
          refine J_istore_n C (L' := [some (.ref (Z.2.1 0)), some (.int (nI h)), some (.int (nI (cnt (fun m => decide (carry a (a.2 3 m) (a.2 2 m) h ≠ a.2 3 m)) (i + 1)))), some (.int (nI i)), some (.int (nI (carry a (a.2 3 i) (a.2 2 i) h)))]) dX6_carryAll_48 rfl (by decide) rfl rfl ?_
          refine J_aload_n C dX6_carryAll_49 rfl rfl ?_
          refine G6_poolOf C wd_4_0 dX6_carryAll_50 ?_
          refine J_iload_n C dX6_carryAll_53 rfl rfl ?_
          refine J_iload C dX6_carryAll_54 rfl ?_
          refine SM_poolOf C (by omega) dX6_carryAll_56 ?_
          refine J_iinc C (v := nI (i + 1)) (L' := [some (.ref (Z.2.1 0)), some (.int (nI h)), some (.int (nI (cnt (fun m => decide (carry a (a.2 3 m) (a.2 2 m) h ≠ a.2 3 m)) (i + 1)))), some (.int (nI (i + 1))), some (.int (nI (carry a (a.2 3 i) (a.2 2 i) h)))]) dX6_carryAll_57 rfl (nI_1 _) (by decide) rfl rfl ?_
          refine J_goto (tgt := 4) C dX6_carryAll_60 (by decide) ?_
          refine J_drop ?_ (ih4 (i + 1) (mA y 13 (upd (y.2 13) i (nI (carry a (a.2 3 i) (a.2 2 i) h)))) (by omega) (hyf.tr F13.arr) (tid_stepM hyr) (by omega))
          exact ⟨rfl, rfl, rfl, rfl, trivial⟩
        · skip
          refine J_iconst C (v := nI 0) dX6_carryAll_42 (by decide) ?_
          refine J_goto (tgt := 47) C dX6_carryAll_43 (by decide) ?_
          refine J_iadd C (v := nI (cnt (fun m => decide (carry a (a.2 3 m) (a.2 2 m) h ≠ a.2 3 m)) (i + 1))) dX6_carryAll_47 (by rw [cnt_no (by simp; omega)]; exact nI_add _ 0) ?_
          refine J_istore_n C (L' := [some (.ref (Z.2.1 0)), some (.int (nI h)), some (.int (nI (cnt (fun m => decide (carry a (a.2 3 m) (a.2 2 m) h ≠ a.2 3 m)) (i + 1)))), some (.int (nI i)), some (.int (nI (carry a (a.2 3 i) (a.2 2 i) h)))]) dX6_carryAll_48 rfl (by decide) rfl rfl ?_
          refine J_aload_n C dX6_carryAll_49 rfl rfl ?_
          refine G6_poolOf C wd_4_0 dX6_carryAll_50 ?_
          refine J_iload_n C dX6_carryAll_53 rfl rfl ?_
          refine J_iload C dX6_carryAll_54 rfl ?_
          refine SM_poolOf C (by omega) dX6_carryAll_56 ?_
          refine J_iinc C (v := nI (i + 1)) (L' := [some (.ref (Z.2.1 0)), some (.int (nI h)), some (.int (nI (cnt (fun m => decide (carry a (a.2 3 m) (a.2 2 m) h ≠ a.2 3 m)) (i + 1)))), some (.int (nI (i + 1))), some (.int (nI (carry a (a.2 3 i) (a.2 2 i) h)))]) dX6_carryAll_57 rfl (nI_1 _) (by decide) rfl rfl ?_
          refine J_goto (tgt := 4) C dX6_carryAll_60 (by decide) ?_
          refine J_drop ?_ (ih4 (i + 1) (mA y 13 (upd (y.2 13) i (nI (carry a (a.2 3 i) (a.2 2 i) h)))) (by omega) (hyf.tr F13.arr) (tid_stepM hyr) (by omega))
          exact ⟨rfl, rfl, rfl, rfl, trivial⟩
  refine J_drop ?_ (lp4 (a.1 4 + 1) 0 x (by omega) F13.rf (tid0M hr) (by omega))
  exact ⟨rfl, rfl, rfl, rfl, trivial⟩
def rm_X6_ayesOf : Room := ({ frames := 0, cells := 0, slots := 0, locals := 0 })
set_option maxRecDepth 20000 in
theorem c_X6_ayesOf (l : Launch) (Z : EC) (x : Mt) (a : SA) (hr : MdR x a) (ok : SOK a) (v : Nat) (hv : v ≤ 9) : MIi l Z (wM Z) yX6_ayesOf cX6_ayesOf 5 rm_X6_ayesOf [.ref (Z.2.1 0), .int (nI v)] x (fun r x1 => r = nI (fri a v) ∧ x = x1) := by
  obtain ⟨ok0, ok1, ok2, ok3, ok4, ok5, ok6, ok7⟩ := id ok
  refine MIi_of (own := RX6) (L0 := [some (.ref (Z.2.1 0)), some (.int (nI v)), none, none, none]) (by decide) rfl (Nat.le_of_ble_eq_true rfl) ⟨rfl, rfl, trivial⟩ ?_
  intro Γ C E
  refine J_iconst C (v := nI 0) dX6_ayesOf_0 (by decide) ?_
  refine J_istore_n C (L' := [some (.ref (Z.2.1 0)), some (.int (nI v)), some (.int (nI 0)), none, none]) dX6_ayesOf_1 rfl (by decide) rfl rfl ?_
  refine J_iconst C (v := nI 0) dX6_ayesOf_2 (by decide) ?_
  refine J_istore_n C (L' := [some (.ref (Z.2.1 0)), some (.int (nI v)), some (.int (nI 0)), some (.int (nI 0)), none]) dX6_ayesOf_3 rfl (by decide) rfl rfl ?_
  have lp4 : ∀ (f : Nat) (i : Nat), (i ≤ a.1 4) → (a.1 4 - i < f) →  J Γ x 4 [some (.ref (Z.2.1 0)), some (.int (nI v)), some (.int (nI (bits (fun m => decide (adf (a.2 4 m) v ≤ a.1 1)) i))), some (.int (nI i)), none] [] := by
    intro f
    induction f with
    | zero =>
      intro i hi hf
      omega
    | succ f ih4 =>
      intro i hi hf
      refine J_iload_n C dX6_ayesOf_4 rfl rfl ?_
      refine J_aload_n C dX6_ayesOf_5 rfl rfl ?_
      refine G6n_members hr C wd_8_16 dX6_ayesOf_6 ?_
      refine J_icmp_ge_n C (tgt := 68) dX6_ayesOf_9 (by decide) (by omega) (by omega) (fun c9 => ?_) (fun c9 => ?_)
      · skip
        refine J_iload_n C dX6_ayesOf_68 rfl rfl ?_
        exact E dX6_ayesOf_69 (⟨by rw [show i = a.1 4 by omega]; rfl, rfl⟩)
      · skip
        refine J_aload_n C dX6_ayesOf_12 rfl rfl ?_
        have hvw := (ok6 i (by omega)).2.2
        have hadf : adf (a.2 4 i) v = (a.2 4 i - v) + (v - a.2 4 i) := rfl
        refine G6_view C wd_4_1 dX6_ayesOf_13 ?_
        refine J_iload_n C dX6_ayesOf_16 rfl rfl ?_
        refine LMn_view hr ok C (by omega) dX6_ayesOf_17 ?_
        refine J_iload_n C dX6_ayesOf_18 rfl rfl ?_
        refine J_icmp_le_n C (tgt := 33) dX6_ayesOf_19 (by decide) (by omega) (by omega) (fun c19 => ?_) (fun c19 => ?_)
        · skip
          refine J_iload_n C dX6_ayesOf_33 rfl rfl ?_
          refine J_aload_n C dX6_ayesOf_34 rfl rfl ?_
          refine G6_view C wd_4_1 dX6_ayesOf_35 ?_
          refine J_iload_n C dX6_ayesOf_38 rfl rfl ?_
          refine LMn_view hr ok C (by omega) dX6_ayesOf_39 ?_
          refine J_isub C (v := nI (v - (a.2 4 i))) dX6_ayesOf_40 (pk_sub (a := v) (b := a.2 4 i) (by omega)) ?_
          refine J_istore C (L' := [some (.ref (Z.2.1 0)), some (.int (nI v)), some (.int (nI (bits (fun m => decide (adf (a.2 4 m) v ≤ a.1 1)) i))), some (.int (nI i)), some (.int (nI (v - (a.2 4 i))))]) dX6_ayesOf_41 (by decide) rfl rfl ?_
          refine J_iload_n C dX6_ayesOf_43 rfl rfl ?_
          refine J_iload C dX6_ayesOf_44 rfl ?_
          refine J_aload_n C dX6_ayesOf_46 rfl rfl ?_
          refine G6n_mild hr C wd_10_16 dX6_ayesOf_47 ?_
          refine J_icmp_gt_n C (tgt := 59) dX6_ayesOf_50 (by decide) (by omega) (by omega) (fun c50 => ?_) (fun c50 => ?_)
          · skip
            refine J_iconst C (v := nI 0) dX6_ayesOf_59 (by decide) ?_
            refine J_ior C (v := nI (bits (fun m => decide (adf (a.2 4 m) v ≤ a.1 1)) (i + 1))) dX6_ayesOf_60 (or_no (p := (fun m => decide (adf (a.2 4 m) v ≤ a.1 1))) (by simp; omega)) ?_
            refine J_istore_n C (L' := [some (.ref (Z.2.1 0)), some (.int (nI v)), some (.int (nI (bits (fun m => decide (adf (a.2 4 m) v ≤ a.1 1)) (i + 1)))), some (.int (nI i)), some (.int (nI (v - (a.2 4 i))))]) dX6_ayesOf_61 rfl (by decide) rfl rfl ?_
            refine J_iinc C (v := nI (i + 1)) (L' := [some (.ref (Z.2.1 0)), some (.int (nI v)), some (.int (nI (bits (fun m => decide (adf (a.2 4 m) v ≤ a.1 1)) (i + 1)))), some (.int (nI (i + 1))), some (.int (nI (v - (a.2 4 i))))]) dX6_ayesOf_62 rfl (nI_1 _) (by decide) rfl rfl ?_
            refine J_goto (tgt := 4) C dX6_ayesOf_65 (by decide) ?_
            refine J_drop ?_ (ih4 (i + 1) (by omega) (by omega))
            exact ⟨rfl, rfl, rfl, rfl, trivial⟩
          · skip
            refine J_iconst C (v := nI 1) dX6_ayesOf_53 (by decide) ?_
            refine J_iload_n C dX6_ayesOf_54 rfl rfl ?_
            refine J_ishl C (v := nI (2 ^ i)) dX6_ayesOf_55 (sh1 _ (by omega)) ?_
            refine J_goto (tgt := 60) C dX6_ayesOf_56 (by decide) ?_
            refine J_ior C (v := nI (bits (fun m => decide (adf (a.2 4 m) v ≤ a.1 1)) (i + 1))) dX6_ayesOf_60 (bits_or (p := (fun m => decide (adf (a.2 4 m) v ≤ a.1 1))) (decide_eq_true (by omega))) ?_
            refine J_istore_n C (L' := [some (.ref (Z.2.1 0)), some (.int (nI v)), some (.int (nI (bits (fun m => decide (adf (a.2 4 m) v ≤ a.1 1)) (i + 1)))), some (.int (nI i)), some (.int (nI (v - (a.2 4 i))))]) dX6_ayesOf_61 rfl (by decide) rfl rfl ?_
            refine J_iinc C (v := nI (i + 1)) (L' := [some (.ref (Z.2.1 0)), some (.int (nI v)), some (.int (nI (bits (fun m => decide (adf (a.2 4 m) v ≤ a.1 1)) (i + 1)))), some (.int (nI (i + 1))), some (.int (nI (v - (a.2 4 i))))]) dX6_ayesOf_62 rfl (nI_1 _) (by decide) rfl rfl ?_
            refine J_goto (tgt := 4) C dX6_ayesOf_65 (by decide) ?_
            refine J_drop ?_ (ih4 (i + 1) (by omega) (by omega))
            exact ⟨rfl, rfl, rfl, rfl, trivial⟩
        · skip
          refine J_aload_n C dX6_ayesOf_22 rfl rfl ?_
          refine G6_view C wd_4_1 dX6_ayesOf_23 ?_
          refine J_iload_n C dX6_ayesOf_26 rfl rfl ?_
          refine LMn_view hr ok C (by omega) dX6_ayesOf_27 ?_
          refine J_iload_n C dX6_ayesOf_28 rfl rfl ?_
          refine J_isub C (v := nI ((a.2 4 i) - v)) dX6_ayesOf_29 (pk_sub (a := a.2 4 i) (b := v) (by omega)) ?_
          refine J_goto (tgt := 41) C dX6_ayesOf_30 (by decide) ?_
          refine J_istore C (L' := [some (.ref (Z.2.1 0)), some (.int (nI v)), some (.int (nI (bits (fun m => decide (adf (a.2 4 m) v ≤ a.1 1)) i))), some (.int (nI i)), some (.int (nI ((a.2 4 i) - v)))]) dX6_ayesOf_41 (by decide) rfl rfl ?_
          refine J_iload_n C dX6_ayesOf_43 rfl rfl ?_
          refine J_iload C dX6_ayesOf_44 rfl ?_
          refine J_aload_n C dX6_ayesOf_46 rfl rfl ?_
          refine G6n_mild hr C wd_10_16 dX6_ayesOf_47 ?_
          refine J_icmp_gt_n C (tgt := 59) dX6_ayesOf_50 (by decide) (by omega) (by omega) (fun c50 => ?_) (fun c50 => ?_)
          · skip
            refine J_iconst C (v := nI 0) dX6_ayesOf_59 (by decide) ?_
            refine J_ior C (v := nI (bits (fun m => decide (adf (a.2 4 m) v ≤ a.1 1)) (i + 1))) dX6_ayesOf_60 (or_no (p := (fun m => decide (adf (a.2 4 m) v ≤ a.1 1))) (by simp; omega)) ?_
            refine J_istore_n C (L' := [some (.ref (Z.2.1 0)), some (.int (nI v)), some (.int (nI (bits (fun m => decide (adf (a.2 4 m) v ≤ a.1 1)) (i + 1)))), some (.int (nI i)), some (.int (nI ((a.2 4 i) - v)))]) dX6_ayesOf_61 rfl (by decide) rfl rfl ?_
            refine J_iinc C (v := nI (i + 1)) (L' := [some (.ref (Z.2.1 0)), some (.int (nI v)), some (.int (nI (bits (fun m => decide (adf (a.2 4 m) v ≤ a.1 1)) (i + 1)))), some (.int (nI (i + 1))), some (.int (nI ((a.2 4 i) - v)))]) dX6_ayesOf_62 rfl (nI_1 _) (by decide) rfl rfl ?_
            refine J_goto (tgt := 4) C dX6_ayesOf_65 (by decide) ?_
            refine J_drop ?_ (ih4 (i + 1) (by omega) (by omega))
            exact ⟨rfl, rfl, rfl, rfl, trivial⟩
          · skip
            refine J_iconst C (v := nI 1) dX6_ayesOf_53 (by decide) ?_
            refine J_iload_n C dX6_ayesOf_54 rfl rfl ?_
            refine J_ishl C (v := nI (2 ^ i)) dX6_ayesOf_55 (sh1 _ (by omega)) ?_
            refine J_goto (tgt := 60) C dX6_ayesOf_56 (by decide) ?_
            refine J_ior C (v := nI (bits (fun m => decide (adf (a.2 4 m) v ≤ a.1 1)) (i + 1))) dX6_ayesOf_60 (bits_or (p := (fun m => decide (adf (a.2 4 m) v ≤ a.1 1))) (decide_eq_true (by omega))) ?_
            refine J_istore_n C (L' := [some (.ref (Z.2.1 0)), some (.int (nI v)), some (.int (nI (bits (fun m => decide (adf (a.2 4 m) v ≤ a.1 1)) (i + 1)))), some (.int (nI i)), some (.int (nI ((a.2 4 i) - v)))]) dX6_ayesOf_61 rfl (by decide) rfl rfl ?_
            refine J_iinc C (v := nI (i + 1)) (L' := [some (.ref (Z.2.1 0)), some (.int (nI v)), some (.int (nI (bits (fun m => decide (adf (a.2 4 m) v ≤ a.1 1)) (i + 1)))), some (.int (nI (i + 1))), some (.int (nI ((a.2 4 i) - v)))]) dX6_ayesOf_62 rfl (nI_1 _) (by decide) rfl rfl ?_
            refine J_goto (tgt := 4) C dX6_ayesOf_65 (by decide) ?_
            refine J_drop ?_ (ih4 (i + 1) (by omega) (by omega))
            exact ⟨rfl, rfl, rfl, rfl, trivial⟩
  refine J_drop ?_ (lp4 (a.1 4 + 1) 0 (by omega) (by omega))
  exact ⟨rfl, rfl, rfl, rfl, trivial⟩
def rm_X6_passesBy : Room := ({ frames := 1, cells := 0, slots := 0, locals := 23 })
set_option maxRecDepth 20000 in
theorem c_X6_passesBy (l : Launch) (Z : EC) (x : Mt) (a : SA) (hr : MdR x a) (ok : SOK a) (f0 : Nat) (hf0 : f0 < 64) : MIi l Z (wM Z) yX6_passesBy cX6_passesBy 5 rm_X6_passesBy [.ref (Z.2.1 0), .int (nI f0)] x (fun r x1 => r = nI (won a f0) ∧ x = x1) := by
  obtain ⟨ok0, ok1, ok2, ok3, ok4, ok5, ok6, ok7⟩ := id ok
  refine MIi_of (own := RX6) (L0 := [some (.ref (Z.2.1 0)), some (.int (nI f0)), none, none, none]) (by decide) rfl (Nat.le_of_ble_eq_true rfl) ⟨rfl, rfl, trivial⟩ ?_
  intro Γ C E
  refine J_iconst C (v := nI 0) dX6_passesBy_0 (by decide) ?_
  refine J_istore_n C (L' := [some (.ref (Z.2.1 0)), some (.int (nI f0)), some (.int (nI 0)), none, none]) dX6_passesBy_1 rfl (by decide) rfl rfl ?_
  refine J_iconst C (v := nI 0) dX6_passesBy_2 (by decide) ?_
  refine J_istore_n C (L' := [some (.ref (Z.2.1 0)), some (.int (nI f0)), some (.int (nI 0)), some (.int (nI 0)), none]) dX6_passesBy_3 rfl (by decide) rfl rfl ?_
  have lp4 : ∀ (f : Nat) (i : Nat), (i ≤ a.1 3) → (a.1 3 - i < f) →  J Γ x 4 [some (.ref (Z.2.1 0)), some (.int (nI f0)), some (.int (nI (bits (fun q => decide (pop (sit a q) < 2 * pop (sit a q &&& f0))) i))), some (.int (nI i)), none] [] := by
    intro f
    induction f with
    | zero =>
      intro i hi hf
      omega
    | succ f ih4 =>
      intro i hi hf
      have hsit := sit64 ok i
      have hp1 := pop_le (sit a i &&& f0)
      have hp2 := pop_le (sit a i)
      refine J_iload_n C dX6_passesBy_4 rfl rfl ?_
      refine J_aload_n C dX6_passesBy_5 rfl rfl ?_
      refine G6n_pools hr C wd_10_18 dX6_passesBy_6 ?_
      refine J_icmp_ge_n C (tgt := 52) dX6_passesBy_9 (by decide) (by omega) (by omega) (fun c9 => ?_) (fun c9 => ?_)
      · skip
        refine J_iload_n C dX6_passesBy_52 rfl rfl ?_
        exact E dX6_passesBy_53 (⟨by rw [show i = a.1 3 by omega]; rfl, rfl⟩)
      · skip
        refine J_aload_n C dX6_passesBy_12 rfl rfl ?_
        refine J_iload_n C dX6_passesBy_13 rfl rfl ?_
        refine J_callVi C (q0 := 0) (ci := 6) (N := 33) (As := [.int (nI i)]) (c_X6_sitters l Z _ a hr ok _ (by omega)) cw_RX6_148 wd_12_12 wd_12_13 rfl rfl rfl rfl (Nat.le_of_ble_eq_true rfl) rfl rfl (Nat.le_of_ble_eq_true rfl) (Nat.le_of_ble_eq_true rfl) dX6_passesBy_14 (fun r14 x14 hp14 => ?_)
        obtain ⟨rfl, rfl⟩ := hp14
        refine J_istore C (L' := [some (.ref (Z.2.1 0)), some (.int (nI f0)), some (.int (nI (bits (fun q => decide (pop (sit a q) < 2 * pop (sit a q &&& f0))) i))), some (.int (nI i)), some (.int (nI (sit a i)))]) dX6_passesBy_17 (by decide) rfl rfl ?_
        refine J_iload_n C dX6_passesBy_19 rfl rfl ?_
        refine J_iconst C (v := nI 2) dX6_passesBy_20 (by decide) ?_
        refine J_iload C dX6_passesBy_21 rfl ?_
        refine J_iload_n C dX6_passesBy_23 rfl rfl ?_
        refine J_iand C (v := nI ((sit a i) &&& f0)) dX6_passesBy_24 (fa_and _ _) ?_
        refine J_callSi C (As := [.int (nI ((sit a i) &&& f0))]) (c_X6_size l Z _ _ (and64 hsit)) cw_RX6_151 wd_12_16 rfl rfl (Nat.le_of_ble_eq_true rfl) rfl rfl (Nat.le_of_ble_eq_true rfl) (Nat.le_of_ble_eq_true rfl) dX6_passesBy_25 (fun r25 x25 hp25 => ?_)
        obtain ⟨rfl, rfl⟩ := hp25
        refine J_imul C (v := nI (2 * (pop ((sit a i) &&& f0)))) dX6_passesBy_28 (pk_mul _ _) ?_
        refine J_iload C dX6_passesBy_29 rfl ?_
        refine J_callSi C (As := [.int (nI (sit a i))]) (c_X6_size l Z _ _ hsit) cw_RX6_151 wd_12_16 rfl rfl (Nat.le_of_ble_eq_true rfl) rfl rfl (Nat.le_of_ble_eq_true rfl) (Nat.le_of_ble_eq_true rfl) dX6_passesBy_31 (fun r31 x31 hp31 => ?_)
        obtain ⟨rfl, rfl⟩ := hp31
        refine J_icmp_le_n C (tgt := 43) dX6_passesBy_34 (by decide) (by omega) (by omega) (fun c34 => ?_) (fun c34 => ?_)
        · skip
          refine J_iconst C (v := nI 0) dX6_passesBy_43 (by decide) ?_
          refine J_ior C (v := nI (bits (fun q => decide (pop (sit a q) < 2 * pop (sit a q &&& f0))) (i + 1))) dX6_passesBy_44 (or_no (p := (fun q => decide (pop (sit a q) < 2 * pop (sit a q &&& f0)))) (by simp; omega)) ?_
          refine J_istore_n C (L' := [some (.ref (Z.2.1 0)), some (.int (nI f0)), some (.int (nI (bits (fun q => decide (pop (sit a q) < 2 * pop (sit a q &&& f0))) (i + 1)))), some (.int (nI i)), some (.int (nI (sit a i)))]) dX6_passesBy_45 rfl (by decide) rfl rfl ?_
          refine J_iinc C (v := nI (i + 1)) (L' := [some (.ref (Z.2.1 0)), some (.int (nI f0)), some (.int (nI (bits (fun q => decide (pop (sit a q) < 2 * pop (sit a q &&& f0))) (i + 1)))), some (.int (nI (i + 1))), some (.int (nI (sit a i)))]) dX6_passesBy_46 rfl (nI_1 _) (by decide) rfl rfl ?_
          refine J_goto (tgt := 4) C dX6_passesBy_49 (by decide) ?_
          refine J_drop ?_ (ih4 (i + 1) (by omega) (by omega))
          exact ⟨rfl, rfl, rfl, rfl, trivial⟩
        · skip
          refine J_iconst C (v := nI 1) dX6_passesBy_37 (by decide) ?_
          refine J_iload_n C dX6_passesBy_38 rfl rfl ?_
          refine J_ishl C (v := nI (2 ^ i)) dX6_passesBy_39 (sh1 _ (by omega)) ?_
          refine J_goto (tgt := 44) C dX6_passesBy_40 (by decide) ?_
          refine J_ior C (v := nI (bits (fun q => decide (pop (sit a q) < 2 * pop (sit a q &&& f0))) (i + 1))) dX6_passesBy_44 (bits_or (p := (fun q => decide (pop (sit a q) < 2 * pop (sit a q &&& f0)))) (decide_eq_true (by omega))) ?_
          refine J_istore_n C (L' := [some (.ref (Z.2.1 0)), some (.int (nI f0)), some (.int (nI (bits (fun q => decide (pop (sit a q) < 2 * pop (sit a q &&& f0))) (i + 1)))), some (.int (nI i)), some (.int (nI (sit a i)))]) dX6_passesBy_45 rfl (by decide) rfl rfl ?_
          refine J_iinc C (v := nI (i + 1)) (L' := [some (.ref (Z.2.1 0)), some (.int (nI f0)), some (.int (nI (bits (fun q => decide (pop (sit a q) < 2 * pop (sit a q &&& f0))) (i + 1)))), some (.int (nI (i + 1))), some (.int (nI (sit a i)))]) dX6_passesBy_46 rfl (nI_1 _) (by decide) rfl rfl ?_
          refine J_goto (tgt := 4) C dX6_passesBy_49 (by decide) ?_
          refine J_drop ?_ (ih4 (i + 1) (by omega) (by omega))
          exact ⟨rfl, rfl, rfl, rfl, trivial⟩
  refine J_drop ?_ (lp4 (a.1 3 + 1) 0 (by omega) (by omega))
  exact ⟨rfl, rfl, rfl, rfl, trivial⟩
def rm_X6_occupied : Room := ({ frames := 1, cells := 0, slots := 0, locals := 23 })
set_option maxRecDepth 20000 in
theorem c_X6_occupied (l : Launch) (Z : EC) (x : Mt) (a : SA) (hr : MdR x a) (ok : SOK a)  : MIi l Z (wM Z) yX6_occupied cX6_occupied 3 rm_X6_occupied [.ref (Z.2.1 0)] x (fun r x1 => r = nI (satIn a) ∧ x = x1) := by
  obtain ⟨ok0, ok1, ok2, ok3, ok4, ok5, ok6, ok7⟩ := id ok
  refine MIi_of (own := RX6) (L0 := [some (.ref (Z.2.1 0)), none, none]) (by decide) rfl (Nat.le_of_ble_eq_true rfl) ⟨rfl, trivial⟩ ?_
  intro Γ C E
  refine J_iconst C (v := nI 0) dX6_occupied_0 (by decide) ?_
  refine J_istore_n C (L' := [some (.ref (Z.2.1 0)), some (.int (nI 0)), none]) dX6_occupied_1 rfl (by decide) rfl rfl ?_
  refine J_iconst C (v := nI 0) dX6_occupied_2 (by decide) ?_
  refine J_istore_n C (L' := [some (.ref (Z.2.1 0)), some (.int (nI 0)), some (.int (nI 0))]) dX6_occupied_3 rfl (by decide) rfl rfl ?_
  have lp4 : ∀ (f : Nat) (i : Nat), (i ≤ a.1 3) → (a.1 3 - i < f) →  J Γ x 4 [some (.ref (Z.2.1 0)), some (.int (nI (cnt (fun q => decide (sit a q ≠ 0)) i))), some (.int (nI i))] [] := by
    intro f
    induction f with
    | zero =>
      intro i hi hf
      omega
    | succ f ih4 =>
      intro i hi hf
      have hsit := sit64 ok i
      have hcn := cnt_le (fun q => decide (sit a q ≠ 0)) i
      refine J_iload_n C dX6_occupied_4 rfl rfl ?_
      refine J_aload_n C dX6_occupied_5 rfl rfl ?_
      refine G6n_pools hr C wd_10_18 dX6_occupied_6 ?_
      refine J_icmp_ge_n C (tgt := 34) dX6_occupied_9 (by decide) (by omega) (by omega) (fun c9 => ?_) (fun c9 => ?_)
      · skip
        refine J_iload_n C dX6_occupied_34 rfl rfl ?_
        exact E dX6_occupied_35 (⟨by rw [show i = a.1 3 by omega]; rfl, rfl⟩)
      · skip
        refine J_iload_n C dX6_occupied_12 rfl rfl ?_
        refine J_aload_n C dX6_occupied_13 rfl rfl ?_
        refine J_iload_n C dX6_occupied_14 rfl rfl ?_
        refine J_callVi C (q0 := 0) (ci := 6) (N := 33) (As := [.int (nI i)]) (c_X6_sitters l Z _ a hr ok _ (by omega)) cw_RX6_148 wd_12_12 wd_12_13 rfl rfl rfl rfl (Nat.le_of_ble_eq_true rfl) rfl rfl (Nat.le_of_ble_eq_true rfl) (Nat.le_of_ble_eq_true rfl) dX6_occupied_15 (fun r15 x15 hp15 => ?_)
        obtain ⟨rfl, rfl⟩ := hp15
        refine J_if_ne_n C (tgt := 25) dX6_occupied_18 (by decide) (by omega) (fun c18 => ?_) (fun c18 => ?_)
        · skip
          refine J_iconst C (v := nI 1) dX6_occupied_25 (by decide) ?_
          refine J_iadd C (v := nI (cnt (fun q => decide (sit a q ≠ 0)) (i + 1))) dX6_occupied_26 (by rw [cnt_yes (by simpa using c18)]; exact nI_add _ 1) ?_
          refine J_istore_n C (L' := [some (.ref (Z.2.1 0)), some (.int (nI (cnt (fun q => decide (sit a q ≠ 0)) (i + 1)))), some (.int (nI i))]) dX6_occupied_27 rfl (by decide) rfl rfl ?_
          refine J_iinc C (v := nI (i + 1)) (L' := [some (.ref (Z.2.1 0)), some (.int (nI (cnt (fun q => decide (sit a q ≠ 0)) (i + 1)))), some (.int (nI (i + 1)))]) dX6_occupied_28 rfl (nI_1 _) (by decide) rfl rfl ?_
          refine J_goto (tgt := 4) C dX6_occupied_31 (by decide) ?_
          refine J_drop ?_ (ih4 (i + 1) (by omega) (by omega))
          exact ⟨rfl, rfl, rfl, trivial⟩
        · skip
          refine J_iconst C (v := nI 0) dX6_occupied_21 (by decide) ?_
          refine J_goto (tgt := 26) C dX6_occupied_22 (by decide) ?_
          refine J_iadd C (v := nI (cnt (fun q => decide (sit a q ≠ 0)) (i + 1))) dX6_occupied_26 (by rw [cnt_no (by simpa using c18)]; exact nI_add _ 0) ?_
          refine J_istore_n C (L' := [some (.ref (Z.2.1 0)), some (.int (nI (cnt (fun q => decide (sit a q ≠ 0)) (i + 1)))), some (.int (nI i))]) dX6_occupied_27 rfl (by decide) rfl rfl ?_
          refine J_iinc C (v := nI (i + 1)) (L' := [some (.ref (Z.2.1 0)), some (.int (nI (cnt (fun q => decide (sit a q ≠ 0)) (i + 1)))), some (.int (nI (i + 1)))]) dX6_occupied_28 rfl (nI_1 _) (by decide) rfl rfl ?_
          refine J_goto (tgt := 4) C dX6_occupied_31 (by decide) ?_
          refine J_drop ?_ (ih4 (i + 1) (by omega) (by omega))
          exact ⟨rfl, rfl, rfl, trivial⟩
  refine J_drop ?_ (lp4 (a.1 3 + 1) 0 (by omega) (by omega))
  exact ⟨rfl, rfl, rfl, trivial⟩
def rm_X6_isLawBy : Room := ({ frames := 2, cells := 0, slots := 0, locals := 47 })
set_option maxRecDepth 20000 in
theorem c_X6_isLawBy (l : Launch) (Z : EC) (x : Mt) (a : SA) (hr : MdR x a) (ok : SOK a) (f0 : Nat) (hf0 : f0 < 64) : MIz l Z (wM Z) yX6_isLawBy cX6_isLawBy 2 rm_X6_isLawBy [.ref (Z.2.1 0), .int (nI f0)] x (fun b x1 => b = isLaw a f0 ∧ x = x1) := by
  obtain ⟨ok0, ok1, ok2, ok3, ok4, ok5, ok6, ok7⟩ := id ok
  have hp1 := pop_le (won a f0)
  have hsi : satIn a ≤ a.1 3 := cnt_le _ _
  refine MIz_of (own := RX6) (L0 := [some (.ref (Z.2.1 0)), some (.int (nI f0))]) (by decide) rfl (Nat.le_of_ble_eq_true rfl) ⟨rfl, rfl, trivial⟩ ?_
  intro Γ C E
  refine J_iconst C (v := nI 2) dX6_isLawBy_0 (by decide) ?_
  refine J_aload_n C dX6_isLawBy_1 rfl rfl ?_
  refine J_iload_n C dX6_isLawBy_2 rfl rfl ?_
  refine J_callVi C (q0 := 0) (ci := 6) (N := 33) (As := [.int (nI f0)]) (c_X6_passesBy l Z _ a hr ok _ hf0) cw_RX6_172 wd_20_15 wd_20_16 rfl rfl rfl rfl (Nat.le_of_ble_eq_true rfl) rfl rfl (Nat.le_of_ble_eq_true rfl) (Nat.le_of_ble_eq_true rfl) dX6_isLawBy_3 (fun r3 x3 hp3 => ?_)
  obtain ⟨rfl, rfl⟩ := hp3
  refine J_callSi C (As := [.int (nI (won a f0))]) (c_X6_size l Z _ _ (won64 ok f0)) cw_RX6_151 wd_12_16 rfl rfl (Nat.le_of_ble_eq_true rfl) rfl rfl (Nat.le_of_ble_eq_true rfl) (Nat.le_of_ble_eq_true rfl) dX6_isLawBy_6 (fun r6 x6 hp6 => ?_)
  obtain ⟨rfl, rfl⟩ := hp6
  refine J_imul C (v := nI (2 * (pop (won a f0)))) dX6_isLawBy_9 (pk_mul _ _) ?_
  refine J_aload_n C dX6_isLawBy_10 rfl rfl ?_
  refine J_callVi C (q0 := 0) (ci := 6) (N := 33) (As := []) (c_X6_occupied l Z _ a hr ok) cw_RX6_175 wd_21_17 wd_21_18 rfl rfl rfl rfl (Nat.le_of_ble_eq_true rfl) rfl rfl (Nat.le_of_ble_eq_true rfl) (Nat.le_of_ble_eq_true rfl) dX6_isLawBy_11 (fun r11 x11 hp11 => ?_)
  obtain ⟨rfl, rfl⟩ := hp11
  refine J_icmp_le_n C (tgt := 21) dX6_isLawBy_14 (by decide) (by omega) (by omega) (fun c14 => ?_) (fun c14 => ?_)
  · skip
    refine J_iconst C (v := nI 0) dX6_isLawBy_21 (by decide) ?_
    exact E (b := false) dX6_isLawBy_22 (⟨(decide_eq_false (by omega)).symm, rfl⟩)
  · skip
    refine J_iconst C (v := nI 1) dX6_isLawBy_17 (by decide) ?_
    refine J_goto (tgt := 22) C dX6_isLawBy_18 (by decide) ?_
    exact E (b := true) dX6_isLawBy_22 (⟨(decide_eq_true (by omega)).symm, rfl⟩)
def rm_X6_ofPool : Room := ({ frames := 1, cells := 0, slots := 0, locals := 23 })
set_option maxRecDepth 20000 in
theorem c_X6_ofPool (l : Launch) (Z : EC) (x : Mt) (A : AB) (hA : AbsM x A) (hk : AOK A) (q w : Int32) : MIi l Z (wM Z) yX6_ofPool cX6_ofPool 3 rm_X6_ofPool [.ref (Z.2.1 0), .int q, .int w] x (fun r x1 => r = R_ofPool A q w ∧ AbsM x1 A) := by
  obtain ⟨hr, hH, hR, hT, hF⟩ := id hA
  obtain ⟨ok, hkH, hkR, hkr⟩ := id hk
  obtain ⟨ok0, ok1, ok2, ok3, ok4, ok5, ok6, ok7⟩ := id ok
  refine MIi_of (own := RX6) (L0 := [some (.ref (Z.2.1 0)), some (.int q), some (.int w)]) (by decide) rfl (Nat.le_of_ble_eq_true rfl) ⟨rfl, rfl, rfl, trivial⟩ ?_
  intro Γ C E
  refine J_aload_n C dX6_ofPool_0 rfl rfl ?_
  refine J_iload_n C dX6_ofPool_1 rfl rfl ?_
  refine J_callVz C (q0 := 0) (ci := 6) (N := 33) (As := [.int q]) (c_X6_isPool l Z _ A.1 hr ok _) cw_RX6_145 wd_12_8 wd_12_9 rfl rfl rfl rfl (Nat.le_of_ble_eq_true rfl) rfl rfl (Nat.le_of_ble_eq_true rfl) (Nat.le_of_ble_eq_true rfl) dX6_ofPool_2 (fun b2 x2 hp2 => ?_)
  obtain ⟨rfl, rfl⟩ := hp2
  refine J_if_ne_d C (tgt := 10) dX6_ofPool_5 (by decide) (fun c5 => ?_) (fun c5 => ?_)
  · skip
    obtain ⟨qn, hqn, rfl⟩ := rng_nat c5
    have tnq := tn_nI (n := qn) (by omega)
    have gq := ok5 qn hqn
    have hpp := pop_le (sit A.1 qn)
    have hmu : 6 * A.1.2 1 qn = A.1.2 1 qn * 6 := Nat.mul_comm _ _
    refine J_iload_n C dX6_ofPool_10 rfl rfl ?_
    by_cases s11_0 : w = nI 0
    · skip
      refine J_tabIn C (tgt := 40) dX6_ofPool_11 (by rw [s11_0]; decide) (by rw [s11_0]; decide) (by rw [s11_0]; rfl) (by decide) ?_
      refine J_aload_n C dX6_ofPool_40 rfl rfl ?_
      refine G6_height C wd_3_21 dX6_ofPool_41 ?_
      refine J_iload_n C dX6_ofPool_44 rfl rfl ?_
      refine LMn_height hr ok C (by omega) dX6_ofPool_45 ?_
      exact E dX6_ofPool_46 (⟨by rw [R_ofPool, if_pos c5, if_pos s11_0] <;> simp only [tnq], hA⟩)
    by_cases s11_1 : w = nI 1
    · skip
      refine J_tabIn C (tgt := 47) dX6_ofPool_11 (by rw [s11_1]; decide) (by rw [s11_1]; decide) (by rw [s11_1]; rfl) (by decide) ?_
      refine J_aload_n C dX6_ofPool_47 rfl rfl ?_
      refine G6_depth C wd_3_22 dX6_ofPool_48 ?_
      refine J_iload_n C dX6_ofPool_51 rfl rfl ?_
      refine LMn_depth hr ok C (by omega) dX6_ofPool_52 ?_
      exact E dX6_ofPool_53 (⟨by rw [R_ofPool, if_pos c5, if_neg s11_0, if_pos s11_1] <;> simp only [tnq], hA⟩)
    by_cases s11_2 : w = nI 2
    · skip
      refine J_tabIn C (tgt := 54) dX6_ofPool_11 (by rw [s11_2]; decide) (by rw [s11_2]; decide) (by rw [s11_2]; rfl) (by decide) ?_
      refine J_aload_n C dX6_ofPool_54 rfl rfl ?_
      refine J_iload_n C dX6_ofPool_55 rfl rfl ?_
      refine J_callVi C (q0 := 0) (ci := 6) (N := 33) (As := [.int (nI qn)]) (c_X6_sitters l Z _ A.1 hr ok _ (by omega)) cw_RX6_148 wd_12_12 wd_12_13 rfl rfl rfl rfl (Nat.le_of_ble_eq_true rfl) rfl rfl (Nat.le_of_ble_eq_true rfl) (Nat.le_of_ble_eq_true rfl) dX6_ofPool_56 (fun r56 x56 hp56 => ?_)
      obtain ⟨rfl, rfl⟩ := hp56
      exact E dX6_ofPool_59 (⟨by rw [R_ofPool, if_pos c5, if_neg s11_0, if_neg s11_1, if_pos s11_2] <;> simp only [tnq], hA⟩)
    by_cases s11_3 : w = nI 3
    · skip
      refine J_tabIn C (tgt := 60) dX6_ofPool_11 (by rw [s11_3]; decide) (by rw [s11_3]; decide) (by rw [s11_3]; rfl) (by decide) ?_
      refine J_bipush C (v := nI 6) dX6_ofPool_60 (by decide) ?_
      refine J_aload_n C dX6_ofPool_62 rfl rfl ?_
      refine G6_depth C wd_3_22 dX6_ofPool_63 ?_
      refine J_iload_n C dX6_ofPool_66 rfl rfl ?_
      refine LMn_depth hr ok C (by omega) dX6_ofPool_67 ?_
      refine J_imul C (v := nI (6 * (A.1.2 1 qn))) dX6_ofPool_68 (pk_mul _ _) ?_
      refine J_aload_n C dX6_ofPool_69 rfl rfl ?_
      refine J_iload_n C dX6_ofPool_70 rfl rfl ?_
      refine J_callVi C (q0 := 0) (ci := 6) (N := 33) (As := [.int (nI qn)]) (c_X6_sitters l Z _ A.1 hr ok _ (by omega)) cw_RX6_148 wd_12_12 wd_12_13 rfl rfl rfl rfl (Nat.le_of_ble_eq_true rfl) rfl rfl (Nat.le_of_ble_eq_true rfl) (Nat.le_of_ble_eq_true rfl) dX6_ofPool_71 (fun r71 x71 hp71 => ?_)
      obtain ⟨rfl, rfl⟩ := hp71
      refine J_callSi C (As := [.int (nI (sit A.1 qn))]) (c_X6_size l Z _ _ (sit64 ok qn)) cw_RX6_151 wd_12_16 rfl rfl (Nat.le_of_ble_eq_true rfl) rfl rfl (Nat.le_of_ble_eq_true rfl) (Nat.le_of_ble_eq_true rfl) dX6_ofPool_74 (fun r74 x74 hp74 => ?_)
      obtain ⟨rfl, rfl⟩ := hp74
      refine J_iconst C (v := nI 1) dX6_ofPool_77 (by decide) ?_
      refine J_iadd C (v := nI ((pop (sit A.1 qn)) + 1)) dX6_ofPool_78 (nI_add _ _) ?_
      refine J_idiv C (v := nI ((6 * (A.1.2 1 qn)) / ((pop (sit A.1 qn)) + 1))) dX6_ofPool_79 (nI_ne0 (by omega) (by omega)) (pk_div (by omega) (by omega) (by omega)) ?_
      exact E dX6_ofPool_80 (⟨by rw [R_ofPool, if_pos c5, if_neg s11_0, if_neg s11_1, if_neg s11_2, if_pos s11_3]; simp only [tnq, hmu], hA⟩)
    refine J_tabOut C (tgt := 81) dX6_ofPool_11 (tab_out (lo := 0) (hi := 3) (fun z h1 h2 => by rcases (show z = 0 ∨ z = 1 ∨ z = 2 ∨ z = 3 by omega) with rfl | rfl | rfl | rfl <;> assumption)) (by decide) ?_
    refine J_bipush C (v := (-2)) dX6_ofPool_81 (by decide) ?_
    exact E dX6_ofPool_83 (⟨by rw [R_ofPool, if_pos c5, if_neg s11_0, if_neg s11_1, if_neg s11_2, if_neg s11_3] <;> simp only [tnq], hA⟩)
  · skip
    refine J_iconst C (v := (-1)) dX6_ofPool_8 (by decide) ?_
    exact E dX6_ofPool_9 (⟨by rw [R_ofPool, if_neg c5] <;> simp only [tnq], hA⟩)
def rm_X6_ofMember : Room := ({ frames := 1, cells := 0, slots := 0, locals := 21 })
set_option maxRecDepth 20000 in
theorem c_X6_ofMember (l : Launch) (Z : EC) (x : Mt) (A : AB) (hA : AbsM x A) (hk : AOK A) (m w : Int32) : MIi l Z (wM Z) yX6_ofMember cX6_ofMember 3 rm_X6_ofMember [.ref (Z.2.1 0), .int m, .int w] x (fun r x1 => r = R_ofMember A m w ∧ AbsM x1 A) := by
  obtain ⟨hr, hH, hR, hT, hF⟩ := id hA
  obtain ⟨ok, hkH, hkR, hkr⟩ := id hk
  obtain ⟨ok0, ok1, ok2, ok3, ok4, ok5, ok6, ok7⟩ := id ok
  refine MIi_of (own := RX6) (L0 := [some (.ref (Z.2.1 0)), some (.int m), some (.int w)]) (by decide) rfl (Nat.le_of_ble_eq_true rfl) ⟨rfl, rfl, rfl, trivial⟩ ?_
  intro Γ C E
  refine J_aload_n C dX6_ofMember_0 rfl rfl ?_
  refine J_iload_n C dX6_ofMember_1 rfl rfl ?_
  refine J_callVz C (q0 := 0) (ci := 6) (N := 33) (As := [.int m]) (c_X6_isMember l Z _ A.1 hr ok _) cw_RX6_154 wd_13_14 wd_13_15 rfl rfl rfl rfl (Nat.le_of_ble_eq_true rfl) rfl rfl (Nat.le_of_ble_eq_true rfl) (Nat.le_of_ble_eq_true rfl) dX6_ofMember_2 (fun b2 x2 hp2 => ?_)
  obtain ⟨rfl, rfl⟩ := hp2
  refine J_if_ne_d C (tgt := 10) dX6_ofMember_5 (by decide) (fun c5 => ?_) (fun c5 => ?_)
  · skip
    obtain ⟨mn, hmn, rfl⟩ := rng_nat c5
    have tnm := tn_nI (n := mn) (by omega)
    have gm := ok6 mn hmn
    have hs1 := ok7 (by omega)
    refine J_iload_n C dX6_ofMember_10 rfl rfl ?_
    refine J_if_ne C (tgt := 23) dX6_ofMember_11 (by decide) (fun c11 => ?_) (fun c11 => ?_)
    · skip
      refine J_iload_n C dX6_ofMember_23 rfl rfl ?_
      refine J_iconst C (v := nI 1) dX6_ofMember_24 (by decide) ?_
      refine J_icmp_ne C (tgt := 37) dX6_ofMember_25 (by decide) (fun c25 => ?_) (fun c25 => ?_)
      · skip
        refine J_iload_n C dX6_ofMember_37 rfl rfl ?_
        refine J_iconst C (v := nI 2) dX6_ofMember_38 (by decide) ?_
        refine J_icmp_ne C (tgt := 51) dX6_ofMember_39 (by decide) (fun c39 => ?_) (fun c39 => ?_)
        · skip
          refine J_iload_n C dX6_ofMember_51 rfl rfl ?_
          refine J_iconst C (v := nI 3) dX6_ofMember_52 (by decide) ?_
          refine J_icmp_ne C (tgt := 64) dX6_ofMember_53 (by decide) (fun c53 => ?_) (fun c53 => ?_)
          · skip
            refine J_bipush C (v := (-2)) dX6_ofMember_64 (by decide) ?_
            exact E dX6_ofMember_66 (⟨by rw [R_ofMember, if_pos c5, if_neg (show ¬ w = nI 0 from c11), if_neg c25, if_neg c39, if_neg c53] <;> simp only [tnm], hA⟩)
          · skip
            refine J_aload_n C dX6_ofMember_56 rfl rfl ?_
            refine J_iload_n C dX6_ofMember_57 rfl rfl ?_
            refine J_callVi C (q0 := 0) (ci := 6) (N := 33) (As := [.int (nI mn)]) (c_X6_farOf l Z _ A.1 hr ok _ hmn) cw_RX6_157 wd_13_18 wd_13_19 rfl rfl rfl rfl (Nat.le_of_ble_eq_true rfl) rfl rfl (Nat.le_of_ble_eq_true rfl) (Nat.le_of_ble_eq_true rfl) dX6_ofMember_58 (fun r58 x58 hp58 => ?_)
            obtain ⟨rfl, rfl⟩ := hp58
            refine J_goto (tgt := 66) C dX6_ofMember_61 (by decide) ?_
            exact E dX6_ofMember_66 (⟨by rw [R_ofMember, if_pos c5, if_neg (show ¬ w = nI 0 from c11), if_neg c25, if_neg c39, if_pos c53] <;> simp only [tnm], hA⟩)
        · skip
          refine J_aload_n C dX6_ofMember_42 rfl rfl ?_
          refine G6_view C wd_4_1 dX6_ofMember_43 ?_
          refine J_iload_n C dX6_ofMember_46 rfl rfl ?_
          refine LMn_view hr ok C (by omega) dX6_ofMember_47 ?_
          refine J_goto (tgt := 66) C dX6_ofMember_48 (by decide) ?_
          exact E dX6_ofMember_66 (⟨by rw [R_ofMember, if_pos c5, if_neg (show ¬ w = nI 0 from c11), if_neg c25, if_pos c39] <;> simp only [tnm], hA⟩)
      · skip
        refine J_aload_n C dX6_ofMember_28 rfl rfl ?_
        refine G6_poolOf C wd_4_0 dX6_ofMember_29 ?_
        refine J_iload_n C dX6_ofMember_32 rfl rfl ?_
        refine LMn_poolOf hr ok C (by omega) dX6_ofMember_33 ?_
        refine J_goto (tgt := 66) C dX6_ofMember_34 (by decide) ?_
        exact E dX6_ofMember_66 (⟨by rw [R_ofMember, if_pos c5, if_neg (show ¬ w = nI 0 from c11), if_pos c25] <;> simp only [tnm], hA⟩)
    · skip
      refine J_aload_n C dX6_ofMember_14 rfl rfl ?_
      refine G6_kind C wd_3_23 dX6_ofMember_15 ?_
      refine J_iload_n C dX6_ofMember_18 rfl rfl ?_
      refine LMn_kind hr ok C (by omega) dX6_ofMember_19 ?_
      refine J_goto (tgt := 66) C dX6_ofMember_20 (by decide) ?_
      exact E dX6_ofMember_66 (⟨by rw [R_ofMember, if_pos c5, if_pos (show w = nI 0 from c11)] <;> simp only [tnm], hA⟩)
  · skip
    refine J_iconst C (v := (-1)) dX6_ofMember_8 (by decide) ?_
    exact E dX6_ofMember_9 (⟨by rw [R_ofMember, if_neg c5] <;> simp only [tnm], hA⟩)
def rm_X6_raise : Room := ({ frames := 1, cells := 0, slots := 0, locals := 22 })
set_option maxRecDepth 20000 in
theorem c_X6_raise (l : Launch) (Z : EC) (x : Mt) (A : AB) (hA : AbsM x A) (hk : AOK A) (q v : Int32) : MIi l Z (wM Z) yX6_raise cX6_raise 4 rm_X6_raise [.ref (Z.2.1 0), .int q, .int v] x (fun r x1 => r = R_raise A q v ∧ AbsM x1 (N_raise A q v)) := by
  obtain ⟨hr, hH, hR, hT, hF⟩ := id hA
  obtain ⟨ok, hkH, hkR, hkr⟩ := id hk
  obtain ⟨ok0, ok1, ok2, ok3, ok4, ok5, ok6, ok7⟩ := id ok
  refine MIi_of (own := RX6) (L0 := [some (.ref (Z.2.1 0)), some (.int q), some (.int v), none]) (by decide) rfl (Nat.le_of_ble_eq_true rfl) ⟨rfl, rfl, rfl, trivial⟩ ?_
  intro Γ C E
  refine J_aload_n C dX6_raise_0 rfl rfl ?_
  refine J_iload_n C dX6_raise_1 rfl rfl ?_
  refine J_callVz C (q0 := 0) (ci := 6) (N := 33) (As := [.int q]) (c_X6_isPool l Z _ A.1 hr ok _) cw_RX6_145 wd_12_8 wd_12_9 rfl rfl rfl rfl (Nat.le_of_ble_eq_true rfl) rfl rfl (Nat.le_of_ble_eq_true rfl) (Nat.le_of_ble_eq_true rfl) dX6_raise_2 (fun b2 x2 hp2 => ?_)
  obtain ⟨rfl, rfl⟩ := hp2
  refine J_if_ne_d C (tgt := 10) dX6_raise_5 (by decide) (fun c5 => ?_) (fun c5 => ?_)
  · skip
    obtain ⟨qn, hqn, rfl⟩ := rng_nat c5
    have tnq := tn_nI (n := qn) (by omega)
    have gq := ok5 qn hqn
    refine J_iload_n C dX6_raise_10 rfl rfl ?_
    refine J_iconst C (v := nI 1) dX6_raise_11 (by decide) ?_
    refine J_bipush C (v := nI 9) dX6_raise_12 (by decide) ?_
    refine J_callSz C (As := [.int v, .int (nI 1), .int (nI 9)]) (c_X6_within l Z _ _ _ _ (1) (9) (by decide) (by decide)) cw_RX6_70 wd_8_21 rfl rfl (Nat.le_of_ble_eq_true rfl) rfl rfl (Nat.le_of_ble_eq_true rfl) (Nat.le_of_ble_eq_true rfl) dX6_raise_14 (fun b14 x14 hp14 => ?_)
    obtain ⟨rfl, rfl⟩ := hp14
    refine J_if_ne_d C (tgt := 23) dX6_raise_17 (by decide) (fun c17 => ?_) (fun c17 => ?_)
    · skip
      obtain ⟨vn, v0, v9, rfl⟩ := rng_nat2 (A := 1) (B := 9) (c17)
      have tnv := tn_nI (n := vn) (by omega)
      refine J_aload_n C dX6_raise_23 rfl rfl ?_
      refine G6_height C wd_3_21 dX6_raise_24 ?_
      refine J_iload_n C dX6_raise_27 rfl rfl ?_
      refine LMn_height hr ok C (by omega) dX6_raise_28 ?_
      refine J_istore_n C (L' := [some (.ref (Z.2.1 0)), some (.int (nI qn)), some (.int (nI vn)), some (.int (nI (A.1.2 0 qn)))]) dX6_raise_29 rfl (by decide) rfl rfl ?_
      refine J_aload_n C dX6_raise_30 rfl rfl ?_
      refine G6_height C wd_3_21 dX6_raise_31 ?_
      refine J_iload_n C dX6_raise_34 rfl rfl ?_
      refine J_iload_n C dX6_raise_35 rfl rfl ?_
      refine SM_height C (by omega) dX6_raise_36 ?_
      refine J_iload_n C dX6_raise_37 rfl rfl ?_
      exact E dX6_raise_38 (⟨by rw [R_raise, if_pos c5, if_pos c17] <;> simp only [tnq], by rw [N_raise, if_pos c5, if_pos c17]; first | exact hA | (simp only [tnq, tnv]; exact absM_A (t := 0) (by omega) hA)⟩)
    · skip
      refine J_bipush C (v := (-2)) dX6_raise_20 (by decide) ?_
      exact E dX6_raise_22 (⟨by rw [R_raise, if_pos c5, if_neg c17] <;> simp only [tnq], by rw [N_raise, if_pos c5, if_neg c17]; first | exact hA | (simp only [tnq, tnv]; exact absM_A (t := 0) (by omega) hA)⟩)
  · skip
    refine J_iconst C (v := (-1)) dX6_raise_8 (by decide) ?_
    exact E dX6_raise_9 (⟨by rw [R_raise, if_neg c5] <;> simp only [tnq], by rw [N_raise, if_neg c5]; first | exact hA | (simp only [tnq, tnv]; exact absM_A (t := 0) (by omega) hA)⟩)
def rm_X6_sway : Room := ({ frames := 2, cells := 0, slots := 0, locals := 42 })
set_option maxRecDepth 20000 in
theorem c_X6_sway (l : Launch) (Z : EC) (x : Mt) (A : AB) (hA : AbsM x A) (hk : AOK A) (m v : Int32) : MIi l Z (wM Z) yX6_sway cX6_sway 4 rm_X6_sway [.ref (Z.2.1 0), .int m, .int v] x (fun r x1 => r = R_sway A m v ∧ AbsM x1 (N_sway A m v)) := by
  obtain ⟨hr, hH, hR, hT, hF⟩ := id hA
  obtain ⟨ok, hkH, hkR, hkr⟩ := id hk
  obtain ⟨ok0, ok1, ok2, ok3, ok4, ok5, ok6, ok7⟩ := id ok
  refine MIi_of (own := RX6) (L0 := [some (.ref (Z.2.1 0)), some (.int m), some (.int v), none]) (by decide) rfl (Nat.le_of_ble_eq_true rfl) ⟨rfl, rfl, rfl, trivial⟩ ?_
  intro Γ C E
  refine J_aload_n C dX6_sway_0 rfl rfl ?_
  refine J_iload_n C dX6_sway_1 rfl rfl ?_
  refine J_callVz C (q0 := 0) (ci := 6) (N := 33) (As := [.int m]) (c_X6_isMember l Z _ A.1 hr ok _) cw_RX6_154 wd_13_14 wd_13_15 rfl rfl rfl rfl (Nat.le_of_ble_eq_true rfl) rfl rfl (Nat.le_of_ble_eq_true rfl) (Nat.le_of_ble_eq_true rfl) dX6_sway_2 (fun b2 x2 hp2 => ?_)
  obtain ⟨rfl, rfl⟩ := hp2
  refine J_if_ne_d C (tgt := 10) dX6_sway_5 (by decide) (fun c5 => ?_) (fun c5 => ?_)
  · skip
    obtain ⟨mn, hmn, rfl⟩ := rng_nat c5
    have tnm := tn_nI (n := mn) (by omega)
    have gm := ok6 mn hmn
    have hs1 := ok7 (by omega)
    refine J_iload_n C dX6_sway_10 rfl rfl ?_
    refine J_callSz C (As := [.int v]) (c_X6_isDigit l Z _ _) cw_RX6_160 wd_14_17 rfl rfl (Nat.le_of_ble_eq_true rfl) rfl rfl (Nat.le_of_ble_eq_true rfl) (Nat.le_of_ble_eq_true rfl) dX6_sway_11 (fun b11 x11 hp11 => ?_)
    obtain ⟨rfl, rfl⟩ := hp11
    refine J_if_ne_d C (tgt := 20) dX6_sway_14 (by decide) (fun c14 => ?_) (fun c14 => ?_)
    · skip
      obtain ⟨vn, v0, v9, rfl⟩ := rng_nat2 (A := 0) (B := 9) (c14)
      have tnv := tn_nI (n := vn) (by omega)
      refine J_aload_n C dX6_sway_20 rfl rfl ?_
      refine G6_view C wd_4_1 dX6_sway_21 ?_
      refine J_iload_n C dX6_sway_24 rfl rfl ?_
      refine LMn_view hr ok C (by omega) dX6_sway_25 ?_
      refine J_istore_n C (L' := [some (.ref (Z.2.1 0)), some (.int (nI mn)), some (.int (nI vn)), some (.int (nI (A.1.2 4 mn)))]) dX6_sway_26 rfl (by decide) rfl rfl ?_
      refine J_aload_n C dX6_sway_27 rfl rfl ?_
      refine G6_view C wd_4_1 dX6_sway_28 ?_
      refine J_iload_n C dX6_sway_31 rfl rfl ?_
      refine J_iload_n C dX6_sway_32 rfl rfl ?_
      refine SM_view C (by omega) dX6_sway_33 ?_
      refine J_iload_n C dX6_sway_34 rfl rfl ?_
      exact E dX6_sway_35 (⟨by rw [R_sway, if_pos c5, if_pos c14] <;> simp only [tnm], by rw [N_sway, if_pos c5, if_pos c14]; first | exact hA | (simp only [tnm, tnv]; exact absM_A (t := 4) (by omega) hA)⟩)
    · skip
      refine J_bipush C (v := (-2)) dX6_sway_17 (by decide) ?_
      exact E dX6_sway_19 (⟨by rw [R_sway, if_pos c5, if_neg c14] <;> simp only [tnm], by rw [N_sway, if_pos c5, if_neg c14]; first | exact hA | (simp only [tnm, tnv]; exact absM_A (t := 4) (by omega) hA)⟩)
  · skip
    refine J_iconst C (v := (-1)) dX6_sway_8 (by decide) ?_
    exact E dX6_sway_9 (⟨by rw [R_sway, if_neg c5] <;> simp only [tnm], by rw [N_sway, if_neg c5]; first | exact hA | (simp only [tnm, tnv]; exact absM_A (t := 4) (by omega) hA)⟩)
def rm_X6_seat : Room := ({ frames := 1, cells := 0, slots := 0, locals := 21 })
set_option maxRecDepth 20000 in
theorem c_X6_seat (l : Launch) (Z : EC) (x : Mt) (A : AB) (hA : AbsM x A) (hk : AOK A) (m q : Int32) : MIi l Z (wM Z) yX6_seat cX6_seat 4 rm_X6_seat [.ref (Z.2.1 0), .int m, .int q] x (fun r x1 => r = R_seat A m q ∧ AbsM x1 (N_seat A m q)) := by
  obtain ⟨hr, hH, hR, hT, hF⟩ := id hA
  obtain ⟨ok, hkH, hkR, hkr⟩ := id hk
  obtain ⟨ok0, ok1, ok2, ok3, ok4, ok5, ok6, ok7⟩ := id ok
  refine MIi_of (own := RX6) (L0 := [some (.ref (Z.2.1 0)), some (.int m), some (.int q), none]) (by decide) rfl (Nat.le_of_ble_eq_true rfl) ⟨rfl, rfl, rfl, trivial⟩ ?_
  intro Γ C E
  refine J_aload_n C dX6_seat_0 rfl rfl ?_
  refine J_iload_n C dX6_seat_1 rfl rfl ?_
  refine J_callVz C (q0 := 0) (ci := 6) (N := 33) (As := [.int m]) (c_X6_isMember l Z _ A.1 hr ok _) cw_RX6_154 wd_13_14 wd_13_15 rfl rfl rfl rfl (Nat.le_of_ble_eq_true rfl) rfl rfl (Nat.le_of_ble_eq_true rfl) (Nat.le_of_ble_eq_true rfl) dX6_seat_2 (fun b2 x2 hp2 => ?_)
  obtain ⟨rfl, rfl⟩ := hp2
  refine J_if_eq_d C (tgt := 16) dX6_seat_5 (by decide) (fun c5 => ?_) (fun c5 => ?_)
  · skip
    refine J_iconst C (v := (-1)) dX6_seat_16 (by decide) ?_
    exact E dX6_seat_17 (⟨by rw [R_seat, if_neg c5] <;> simp only [tnm], by rw [N_seat, if_neg c5]; first | exact hA | (simp only [tnm, tnq]; exact absM_A (t := 3) (by omega) hA)⟩)
  · skip
    obtain ⟨mn, hmn, rfl⟩ := rng_nat c5
    have tnm := tn_nI (n := mn) (by omega)
    have gm := ok6 mn hmn
    have hs1 := ok7 (by omega)
    refine J_aload_n C dX6_seat_8 rfl rfl ?_
    refine J_iload_n C dX6_seat_9 rfl rfl ?_
    refine J_callVz C (q0 := 0) (ci := 6) (N := 33) (As := [.int q]) (c_X6_isPool l Z _ A.1 hr ok _) cw_RX6_145 wd_12_8 wd_12_9 rfl rfl rfl rfl (Nat.le_of_ble_eq_true rfl) rfl rfl (Nat.le_of_ble_eq_true rfl) (Nat.le_of_ble_eq_true rfl) dX6_seat_10 (fun b10 x10 hp10 => ?_)
    obtain ⟨rfl, rfl⟩ := hp10
    refine J_if_ne_d C (tgt := 18) dX6_seat_13 (by decide) (fun c13 => ?_) (fun c13 => ?_)
    · skip
      obtain ⟨qn, hqn, rfl⟩ := rng_nat c13
      have tnq := tn_nI (n := qn) (by omega)
      have gq := ok5 qn hqn
      refine J_aload_n C dX6_seat_18 rfl rfl ?_
      refine G6_poolOf C wd_4_0 dX6_seat_19 ?_
      refine J_iload_n C dX6_seat_22 rfl rfl ?_
      refine LMn_poolOf hr ok C (by omega) dX6_seat_23 ?_
      refine J_istore_n C (L' := [some (.ref (Z.2.1 0)), some (.int (nI mn)), some (.int (nI qn)), some (.int (nI (A.1.2 3 mn)))]) dX6_seat_24 rfl (by decide) rfl rfl ?_
      refine J_aload_n C dX6_seat_25 rfl rfl ?_
      refine G6_poolOf C wd_4_0 dX6_seat_26 ?_
      refine J_iload_n C dX6_seat_29 rfl rfl ?_
      refine J_iload_n C dX6_seat_30 rfl rfl ?_
      refine SM_poolOf C (by omega) dX6_seat_31 ?_
      refine J_iload_n C dX6_seat_32 rfl rfl ?_
      exact E dX6_seat_33 (⟨by rw [R_seat, if_pos c5, if_pos c13] <;> simp only [tnm], by rw [N_seat, if_pos c5, if_pos c13]; first | exact hA | (simp only [tnm, tnq]; exact absM_A (t := 3) (by omega) hA)⟩)
    · skip
      refine J_iconst C (v := (-1)) dX6_seat_16 (by decide) ?_
      exact E dX6_seat_17 (⟨by rw [R_seat, if_pos c5, if_neg c13] <;> simp only [tnm], by rw [N_seat, if_pos c5, if_neg c13]; first | exact hA | (simp only [tnm, tnq]; exact absM_A (t := 3) (by omega) hA)⟩)
def rm_X6_flow : Room := ({ frames := 1, cells := 0, slots := 0, locals := 22 })
set_option maxRecDepth 20000 in
theorem c_X6_flow (l : Launch) (Z : EC) (x : Mt) (A : AB) (hA : AbsM x A) (hk : AOK A) (v : Int32) : MIi l Z (wM Z) yX6_flow cX6_flow 3 rm_X6_flow [.ref (Z.2.1 0), .int v] x (fun r x1 => r = R_flow A v ∧ AbsM x1 (N_flow A v)) := by
  obtain ⟨hr, hH, hR, hT, hF⟩ := id hA
  obtain ⟨ok, hkH, hkR, hkr⟩ := id hk
  obtain ⟨ok0, ok1, ok2, ok3, ok4, ok5, ok6, ok7⟩ := id ok
  refine MIi_of (own := RX6) (L0 := [some (.ref (Z.2.1 0)), some (.int v), none]) (by decide) rfl (Nat.le_of_ble_eq_true rfl) ⟨rfl, rfl, trivial⟩ ?_
  intro Γ C E
  refine J_iload_n C dX6_flow_0 rfl rfl ?_
  refine J_iconst C (v := nI 1) dX6_flow_1 (by decide) ?_
  refine J_iconst C (v := nI 3) dX6_flow_2 (by decide) ?_
  refine J_callSz C (As := [.int v, .int (nI 1), .int (nI 3)]) (c_X6_within l Z _ _ _ _ (1) (3) (by decide) (by decide)) cw_RX6_70 wd_8_21 rfl rfl (Nat.le_of_ble_eq_true rfl) rfl rfl (Nat.le_of_ble_eq_true rfl) (Nat.le_of_ble_eq_true rfl) dX6_flow_3 (fun b3 x3 hp3 => ?_)
  obtain ⟨rfl, rfl⟩ := hp3
  refine J_if_ne_d C (tgt := 12) dX6_flow_6 (by decide) (fun c6 => ?_) (fun c6 => ?_)
  · skip
    obtain ⟨vn, v0, v9, rfl⟩ := rng_nat2 (A := 1) (B := 3) (c6)
    have tnv := tn_nI (n := vn) (by omega)
    refine J_aload_n C dX6_flow_12 rfl rfl ?_
    refine G6n_pools hr C wd_10_18 dX6_flow_13 ?_
    refine J_if_ne_n C (tgt := 22) dX6_flow_16 (by decide) (by omega) (fun c16 => ?_) (fun c16 => ?_)
    · skip
      refine J_aload_n C dX6_flow_22 rfl rfl ?_
      refine G6n_stream hr C wd_10_15 dX6_flow_23 ?_
      refine J_istore_n C (L' := [some (.ref (Z.2.1 0)), some (.int (nI vn)), some (.int (nI (A.1.1 0)))]) dX6_flow_26 rfl (by decide) rfl rfl ?_
      refine J_aload_n C dX6_flow_27 rfl rfl ?_
      refine J_iload_n C dX6_flow_28 rfl rfl ?_
      refine P6_stream C wd_10_15 dX6_flow_29 ?_
      refine J_iload_n C dX6_flow_32 rfl rfl ?_
      exact E dX6_flow_33 (⟨by rw [R_flow, if_pos c6, if_neg c16], by rw [N_flow, if_pos c6, if_neg c16]; first | exact hA | (simp only [tnv]; exact absM_I (i := 0) (by omega) hA)⟩)
    · skip
      refine J_bipush C (v := (-3)) dX6_flow_19 (by decide) ?_
      exact E dX6_flow_21 (⟨by rw [R_flow, if_pos c6, if_pos c16], by rw [N_flow, if_pos c6, if_pos c16]; first | exact hA | (simp only [tnv]; exact absM_I (i := 0) (by omega) hA)⟩)
  · skip
    refine J_bipush C (v := (-2)) dX6_flow_9 (by decide) ?_
    exact E dX6_flow_11 (⟨by rw [R_flow, if_neg c6], by rw [N_flow, if_neg c6]; first | exact hA | (simp only [tnv]; exact absM_I (i := 0) (by omega) hA)⟩)
def rm_X6_calm : Room := ({ frames := 2, cells := 0, slots := 0, locals := 42 })
set_option maxRecDepth 20000 in
theorem c_X6_calm (l : Launch) (Z : EC) (x : Mt) (A : AB) (hA : AbsM x A) (hk : AOK A) (v : Int32) : MIi l Z (wM Z) yX6_calm cX6_calm 3 rm_X6_calm [.ref (Z.2.1 0), .int v] x (fun r x1 => r = R_calm A v ∧ AbsM x1 (N_calm A v)) := by
  obtain ⟨hr, hH, hR, hT, hF⟩ := id hA
  obtain ⟨ok, hkH, hkR, hkr⟩ := id hk
  obtain ⟨ok0, ok1, ok2, ok3, ok4, ok5, ok6, ok7⟩ := id ok
  refine MIi_of (own := RX6) (L0 := [some (.ref (Z.2.1 0)), some (.int v), none]) (by decide) rfl (Nat.le_of_ble_eq_true rfl) ⟨rfl, rfl, trivial⟩ ?_
  intro Γ C E
  refine J_iload_n C dX6_calm_0 rfl rfl ?_
  refine J_callSz C (As := [.int v]) (c_X6_isDigit l Z _ _) cw_RX6_160 wd_14_17 rfl rfl (Nat.le_of_ble_eq_true rfl) rfl rfl (Nat.le_of_ble_eq_true rfl) (Nat.le_of_ble_eq_true rfl) dX6_calm_1 (fun b1 x1 hp1 => ?_)
  obtain ⟨rfl, rfl⟩ := hp1
  refine J_if_ne_d C (tgt := 10) dX6_calm_4 (by decide) (fun c4 => ?_) (fun c4 => ?_)
  · skip
    obtain ⟨vn, v0, v9, rfl⟩ := rng_nat2 (A := 0) (B := 9) (c4)
    have tnv := tn_nI (n := vn) (by omega)
    refine J_aload_n C dX6_calm_10 rfl rfl ?_
    refine G6n_pools hr C wd_10_18 dX6_calm_11 ?_
    refine J_if_ne_n C (tgt := 20) dX6_calm_14 (by decide) (by omega) (fun c14 => ?_) (fun c14 => ?_)
    · skip
      refine J_aload_n C dX6_calm_20 rfl rfl ?_
      refine G6n_mild hr C wd_10_16 dX6_calm_21 ?_
      refine J_istore_n C (L' := [some (.ref (Z.2.1 0)), some (.int (nI vn)), some (.int (nI (A.1.1 1)))]) dX6_calm_24 rfl (by decide) rfl rfl ?_
      refine J_aload_n C dX6_calm_25 rfl rfl ?_
      refine J_iload_n C dX6_calm_26 rfl rfl ?_
      refine P6_mild C wd_10_16 dX6_calm_27 ?_
      refine J_iload_n C dX6_calm_30 rfl rfl ?_
      exact E dX6_calm_31 (⟨by rw [R_calm, if_pos c4, if_neg c14], by rw [N_calm, if_pos c4, if_neg c14]; first | exact hA | (simp only [tnv]; exact absM_I (i := 1) (by omega) hA)⟩)
    · skip
      refine J_bipush C (v := (-3)) dX6_calm_17 (by decide) ?_
      exact E dX6_calm_19 (⟨by rw [R_calm, if_pos c4, if_pos c14], by rw [N_calm, if_pos c4, if_pos c14]; first | exact hA | (simp only [tnv]; exact absM_I (i := 1) (by omega) hA)⟩)
  · skip
    refine J_bipush C (v := (-2)) dX6_calm_7 (by decide) ?_
    exact E dX6_calm_9 (⟨by rw [R_calm, if_neg c4], by rw [N_calm, if_neg c4]; first | exact hA | (simp only [tnv]; exact absM_I (i := 1) (by omega) hA)⟩)
def rm_X6_leap : Room := ({ frames := 2, cells := 0, slots := 0, locals := 42 })
set_option maxRecDepth 20000 in
theorem c_X6_leap (l : Launch) (Z : EC) (x : Mt) (A : AB) (hA : AbsM x A) (hk : AOK A) (v : Int32) : MIi l Z (wM Z) yX6_leap cX6_leap 3 rm_X6_leap [.ref (Z.2.1 0), .int v] x (fun r x1 => r = R_leap A v ∧ AbsM x1 (N_leap A v)) := by
  obtain ⟨hr, hH, hR, hT, hF⟩ := id hA
  obtain ⟨ok, hkH, hkR, hkr⟩ := id hk
  obtain ⟨ok0, ok1, ok2, ok3, ok4, ok5, ok6, ok7⟩ := id ok
  refine MIi_of (own := RX6) (L0 := [some (.ref (Z.2.1 0)), some (.int v), none]) (by decide) rfl (Nat.le_of_ble_eq_true rfl) ⟨rfl, rfl, trivial⟩ ?_
  intro Γ C E
  refine J_iload_n C dX6_leap_0 rfl rfl ?_
  refine J_callSz C (As := [.int v]) (c_X6_isDigit l Z _ _) cw_RX6_160 wd_14_17 rfl rfl (Nat.le_of_ble_eq_true rfl) rfl rfl (Nat.le_of_ble_eq_true rfl) (Nat.le_of_ble_eq_true rfl) dX6_leap_1 (fun b1 x1 hp1 => ?_)
  obtain ⟨rfl, rfl⟩ := hp1
  refine J_if_ne_d C (tgt := 10) dX6_leap_4 (by decide) (fun c4 => ?_) (fun c4 => ?_)
  · skip
    obtain ⟨vn, v0, v9, rfl⟩ := rng_nat2 (A := 0) (B := 9) (c4)
    have tnv := tn_nI (n := vn) (by omega)
    refine J_aload_n C dX6_leap_10 rfl rfl ?_
    refine G6n_pools hr C wd_10_18 dX6_leap_11 ?_
    refine J_if_ne_n C (tgt := 20) dX6_leap_14 (by decide) (by omega) (fun c14 => ?_) (fun c14 => ?_)
    · skip
      refine J_aload_n C dX6_leap_20 rfl rfl ?_
      refine G6n_leapNow hr C wd_10_17 dX6_leap_21 ?_
      refine J_istore_n C (L' := [some (.ref (Z.2.1 0)), some (.int (nI vn)), some (.int (nI (A.1.1 2)))]) dX6_leap_24 rfl (by decide) rfl rfl ?_
      refine J_aload_n C dX6_leap_25 rfl rfl ?_
      refine J_iload_n C dX6_leap_26 rfl rfl ?_
      refine P6_leapNow C wd_10_17 dX6_leap_27 ?_
      refine J_iload_n C dX6_leap_30 rfl rfl ?_
      exact E dX6_leap_31 (⟨by rw [R_leap, if_pos c4, if_neg c14], by rw [N_leap, if_pos c4, if_neg c14]; first | exact hA | (simp only [tnv]; exact absM_I (i := 2) (by omega) hA)⟩)
    · skip
      refine J_bipush C (v := (-3)) dX6_leap_17 (by decide) ?_
      exact E dX6_leap_19 (⟨by rw [R_leap, if_pos c4, if_pos c14], by rw [N_leap, if_pos c4, if_pos c14]; first | exact hA | (simp only [tnv]; exact absM_I (i := 2) (by omega) hA)⟩)
  · skip
    refine J_bipush C (v := (-2)) dX6_leap_7 (by decide) ?_
    exact E dX6_leap_9 (⟨by rw [R_leap, if_neg c4], by rw [N_leap, if_neg c4]; first | exact hA | (simp only [tnv]; exact absM_I (i := 2) (by omega) hA)⟩)
def rm_X6_washed : Room := ({ frames := 2, cells := 0, slots := 0, locals := 42 })
set_option maxRecDepth 20000 in
theorem c_X6_washed (l : Launch) (Z : EC) (x : Mt) (A : AB) (hA : AbsM x A) (hk : AOK A) (h : Int32) : MIi l Z (wM Z) yX6_washed cX6_washed 2 rm_X6_washed [.ref (Z.2.1 0), .int h] x (fun r x1 => r = R_washed A h ∧ AbsM x1 A) := by
  obtain ⟨hr, hH, hR, hT, hF⟩ := id hA
  obtain ⟨ok, hkH, hkR, hkr⟩ := id hk
  obtain ⟨ok0, ok1, ok2, ok3, ok4, ok5, ok6, ok7⟩ := id ok
  refine MIi_of (own := RX6) (L0 := [some (.ref (Z.2.1 0)), some (.int h)]) (by decide) rfl (Nat.le_of_ble_eq_true rfl) ⟨rfl, rfl, trivial⟩ ?_
  intro Γ C E
  refine J_iload_n C dX6_washed_0 rfl rfl ?_
  refine J_callSz C (As := [.int h]) (c_X6_isDigit l Z _ _) cw_RX6_160 wd_14_17 rfl rfl (Nat.le_of_ble_eq_true rfl) rfl rfl (Nat.le_of_ble_eq_true rfl) (Nat.le_of_ble_eq_true rfl) dX6_washed_1 (fun b1 x1 hp1 => ?_)
  obtain ⟨rfl, rfl⟩ := hp1
  refine J_if_ne_d C (tgt := 10) dX6_washed_4 (by decide) (fun c4 => ?_) (fun c4 => ?_)
  · skip
    obtain ⟨hn, h0, h9, rfl⟩ := rng_nat2 (A := 0) (B := 9) (c4)
    have tnh := tn_nI (n := hn) (by omega)
    refine J_aload_n C dX6_washed_10 rfl rfl ?_
    refine G6n_pools hr C wd_10_18 dX6_washed_11 ?_
    refine J_if_ne_n C (tgt := 22) dX6_washed_14 (by decide) (by omega) (fun c14 => ?_) (fun c14 => ?_)
    · skip
      refine J_aload_n C dX6_washed_22 rfl rfl ?_
      refine J_iload_n C dX6_washed_23 rfl rfl ?_
      refine J_callVi C (q0 := 0) (ci := 6) (N := 33) (As := [.int (nI hn)]) (c_X6_washedBy l Z _ A.1 hr ok _ (by omega)) cw_RX6_163 wd_17_7 wd_17_8 rfl rfl rfl rfl (Nat.le_of_ble_eq_true rfl) rfl rfl (Nat.le_of_ble_eq_true rfl) (Nat.le_of_ble_eq_true rfl) dX6_washed_24 (fun r24 x24 hp24 => ?_)
      obtain ⟨rfl, rfl⟩ := hp24
      exact E dX6_washed_27 (⟨by rw [R_washed, if_pos c4, if_neg c14] <;> simp only [tnh], hA⟩)
    · skip
      refine J_bipush C (v := (-3)) dX6_washed_17 (by decide) ?_
      refine J_goto (tgt := 27) C dX6_washed_19 (by decide) ?_
      exact E dX6_washed_27 (⟨by rw [R_washed, if_pos c4, if_pos c14] <;> simp only [tnh], hA⟩)
  · skip
    refine J_bipush C (v := (-2)) dX6_washed_7 (by decide) ?_
    exact E dX6_washed_9 (⟨by rw [R_washed, if_neg c4] <;> simp only [tnh], hA⟩)
def rm_X6_ayes : Room := ({ frames := 2, cells := 0, slots := 0, locals := 42 })
set_option maxRecDepth 20000 in
theorem c_X6_ayes (l : Launch) (Z : EC) (x : Mt) (A : AB) (hA : AbsM x A) (hk : AOK A) (v : Int32) : MIi l Z (wM Z) yX6_ayes cX6_ayes 2 rm_X6_ayes [.ref (Z.2.1 0), .int v] x (fun r x1 => r = R_ayes A v ∧ AbsM x1 A) := by
  obtain ⟨hr, hH, hR, hT, hF⟩ := id hA
  obtain ⟨ok, hkH, hkR, hkr⟩ := id hk
  obtain ⟨ok0, ok1, ok2, ok3, ok4, ok5, ok6, ok7⟩ := id ok
  refine MIi_of (own := RX6) (L0 := [some (.ref (Z.2.1 0)), some (.int v)]) (by decide) rfl (Nat.le_of_ble_eq_true rfl) ⟨rfl, rfl, trivial⟩ ?_
  intro Γ C E
  refine J_iload_n C dX6_ayes_0 rfl rfl ?_
  refine J_callSz C (As := [.int v]) (c_X6_isDigit l Z _ _) cw_RX6_160 wd_14_17 rfl rfl (Nat.le_of_ble_eq_true rfl) rfl rfl (Nat.le_of_ble_eq_true rfl) (Nat.le_of_ble_eq_true rfl) dX6_ayes_1 (fun b1 x1 hp1 => ?_)
  obtain ⟨rfl, rfl⟩ := hp1
  refine J_if_ne_d C (tgt := 10) dX6_ayes_4 (by decide) (fun c4 => ?_) (fun c4 => ?_)
  · skip
    obtain ⟨vn, v0, v9, rfl⟩ := rng_nat2 (A := 0) (B := 9) (c4)
    have tnv := tn_nI (n := vn) (by omega)
    refine J_aload_n C dX6_ayes_10 rfl rfl ?_
    refine G6n_pools hr C wd_10_18 dX6_ayes_11 ?_
    refine J_if_ne_n C (tgt := 22) dX6_ayes_14 (by decide) (by omega) (fun c14 => ?_) (fun c14 => ?_)
    · skip
      refine J_aload_n C dX6_ayes_22 rfl rfl ?_
      refine J_iload_n C dX6_ayes_23 rfl rfl ?_
      refine J_callVi C (q0 := 0) (ci := 6) (N := 33) (As := [.int (nI vn)]) (c_X6_ayesOf l Z _ A.1 hr ok _ (by omega)) cw_RX6_179 wd_19_23 wd_20_0 rfl rfl rfl rfl (Nat.le_of_ble_eq_true rfl) rfl rfl (Nat.le_of_ble_eq_true rfl) (Nat.le_of_ble_eq_true rfl) dX6_ayes_24 (fun r24 x24 hp24 => ?_)
      obtain ⟨rfl, rfl⟩ := hp24
      exact E dX6_ayes_27 (⟨by rw [R_ayes, if_pos c4, if_neg c14] <;> simp only [tnv], hA⟩)
    · skip
      refine J_bipush C (v := (-3)) dX6_ayes_17 (by decide) ?_
      refine J_goto (tgt := 27) C dX6_ayes_19 (by decide) ?_
      exact E dX6_ayes_27 (⟨by rw [R_ayes, if_pos c4, if_pos c14] <;> simp only [tnv], hA⟩)
  · skip
    refine J_bipush C (v := (-2)) dX6_ayes_7 (by decide) ?_
    exact E dX6_ayes_9 (⟨by rw [R_ayes, if_neg c4] <;> simp only [tnv], hA⟩)
def rm_X6_passes : Room := ({ frames := 2, cells := 0, slots := 0, locals := 47 })
set_option maxRecDepth 20000 in
theorem c_X6_passes (l : Launch) (Z : EC) (x : Mt) (A : AB) (hA : AbsM x A) (hk : AOK A) (v : Int32) : MIi l Z (wM Z) yX6_passes cX6_passes 2 rm_X6_passes [.ref (Z.2.1 0), .int v] x (fun r x1 => r = R_passes A v ∧ AbsM x1 A) := by
  obtain ⟨hr, hH, hR, hT, hF⟩ := id hA
  obtain ⟨ok, hkH, hkR, hkr⟩ := id hk
  obtain ⟨ok0, ok1, ok2, ok3, ok4, ok5, ok6, ok7⟩ := id ok
  refine MIi_of (own := RX6) (L0 := [some (.ref (Z.2.1 0)), some (.int v)]) (by decide) rfl (Nat.le_of_ble_eq_true rfl) ⟨rfl, rfl, trivial⟩ ?_
  intro Γ C E
  refine J_iload_n C dX6_passes_0 rfl rfl ?_
  refine J_callSz C (As := [.int v]) (c_X6_isDigit l Z _ _) cw_RX6_160 wd_14_17 rfl rfl (Nat.le_of_ble_eq_true rfl) rfl rfl (Nat.le_of_ble_eq_true rfl) (Nat.le_of_ble_eq_true rfl) dX6_passes_1 (fun b1 x1 hp1 => ?_)
  obtain ⟨rfl, rfl⟩ := hp1
  refine J_if_ne_d C (tgt := 10) dX6_passes_4 (by decide) (fun c4 => ?_) (fun c4 => ?_)
  · skip
    obtain ⟨vn, v0, v9, rfl⟩ := rng_nat2 (A := 0) (B := 9) (c4)
    have tnv := tn_nI (n := vn) (by omega)
    refine J_aload_n C dX6_passes_10 rfl rfl ?_
    refine G6n_pools hr C wd_10_18 dX6_passes_11 ?_
    refine J_if_ne_n C (tgt := 22) dX6_passes_14 (by decide) (by omega) (fun c14 => ?_) (fun c14 => ?_)
    · skip
      refine J_aload_n C dX6_passes_22 rfl rfl ?_
      refine J_aload_n C dX6_passes_23 rfl rfl ?_
      refine J_iload_n C dX6_passes_24 rfl rfl ?_
      refine J_callVi C (q0 := 0) (ci := 6) (N := 33) (As := [.int (nI vn)]) (c_X6_ayesOf l Z _ A.1 hr ok _ (by omega)) cw_RX6_179 wd_19_23 wd_20_0 rfl rfl rfl rfl (Nat.le_of_ble_eq_true rfl) rfl rfl (Nat.le_of_ble_eq_true rfl) (Nat.le_of_ble_eq_true rfl) dX6_passes_25 (fun r25 x25 hp25 => ?_)
      obtain ⟨rfl, rfl⟩ := hp25
      refine J_callVi C (q0 := 0) (ci := 6) (N := 33) (As := [.int (nI (fri A.1 vn))]) (c_X6_passesBy l Z _ A.1 hr ok _ (fri64 ok vn)) cw_RX6_172 wd_20_15 wd_20_16 rfl rfl rfl rfl (Nat.le_of_ble_eq_true rfl) rfl rfl (Nat.le_of_ble_eq_true rfl) (Nat.le_of_ble_eq_true rfl) dX6_passes_28 (fun r28 x28 hp28 => ?_)
      obtain ⟨rfl, rfl⟩ := hp28
      exact E dX6_passes_31 (⟨by rw [R_passes, if_pos c4, if_neg c14] <;> simp only [tnv], hA⟩)
    · skip
      refine J_bipush C (v := (-3)) dX6_passes_17 (by decide) ?_
      refine J_goto (tgt := 31) C dX6_passes_19 (by decide) ?_
      exact E dX6_passes_31 (⟨by rw [R_passes, if_pos c4, if_pos c14] <;> simp only [tnv], hA⟩)
  · skip
    refine J_bipush C (v := (-2)) dX6_passes_7 (by decide) ?_
    exact E dX6_passes_9 (⟨by rw [R_passes, if_neg c4] <;> simp only [tnv], hA⟩)
def rm_X6_law : Room := ({ frames := 3, cells := 0, slots := 0, locals := 68 })
set_option maxRecDepth 20000 in
theorem c_X6_law (l : Launch) (Z : EC) (x : Mt) (A : AB) (hA : AbsM x A) (hk : AOK A) (v : Int32) : MIi l Z (wM Z) yX6_law cX6_law 2 rm_X6_law [.ref (Z.2.1 0), .int v] x (fun r x1 => r = R_law A v ∧ AbsM x1 A) := by
  obtain ⟨hr, hH, hR, hT, hF⟩ := id hA
  obtain ⟨ok, hkH, hkR, hkr⟩ := id hk
  obtain ⟨ok0, ok1, ok2, ok3, ok4, ok5, ok6, ok7⟩ := id ok
  refine MIi_of (own := RX6) (L0 := [some (.ref (Z.2.1 0)), some (.int v)]) (by decide) rfl (Nat.le_of_ble_eq_true rfl) ⟨rfl, rfl, trivial⟩ ?_
  intro Γ C E
  refine J_iload_n C dX6_law_0 rfl rfl ?_
  refine J_callSz C (As := [.int v]) (c_X6_isDigit l Z _ _) cw_RX6_160 wd_14_17 rfl rfl (Nat.le_of_ble_eq_true rfl) rfl rfl (Nat.le_of_ble_eq_true rfl) (Nat.le_of_ble_eq_true rfl) dX6_law_1 (fun b1 x1 hp1 => ?_)
  obtain ⟨rfl, rfl⟩ := hp1
  refine J_if_ne_d C (tgt := 10) dX6_law_4 (by decide) (fun c4 => ?_) (fun c4 => ?_)
  · skip
    obtain ⟨vn, v0, v9, rfl⟩ := rng_nat2 (A := 0) (B := 9) (c4)
    have tnv := tn_nI (n := vn) (by omega)
    refine J_aload_n C dX6_law_10 rfl rfl ?_
    refine G6n_pools hr C wd_10_18 dX6_law_11 ?_
    refine J_if_ne_n C (tgt := 20) dX6_law_14 (by decide) (by omega) (fun c14 => ?_) (fun c14 => ?_)
    · skip
      refine J_aload_n C dX6_law_20 rfl rfl ?_
      refine J_aload_n C dX6_law_21 rfl rfl ?_
      refine J_iload_n C dX6_law_22 rfl rfl ?_
      refine J_callVi C (q0 := 0) (ci := 6) (N := 33) (As := [.int (nI vn)]) (c_X6_ayesOf l Z _ A.1 hr ok _ (by omega)) cw_RX6_179 wd_19_23 wd_20_0 rfl rfl rfl rfl (Nat.le_of_ble_eq_true rfl) rfl rfl (Nat.le_of_ble_eq_true rfl) (Nat.le_of_ble_eq_true rfl) dX6_law_23 (fun r23 x23 hp23 => ?_)
      obtain ⟨rfl, rfl⟩ := hp23
      refine J_callVz C (q0 := 0) (ci := 6) (N := 33) (As := [.int (nI (fri A.1 vn))]) (c_X6_isLawBy l Z _ A.1 hr ok _ (fri64 ok vn)) cw_RX6_182 wd_21_13 wd_21_14 rfl rfl rfl rfl (Nat.le_of_ble_eq_true rfl) rfl rfl (Nat.le_of_ble_eq_true rfl) (Nat.le_of_ble_eq_true rfl) dX6_law_26 (fun b26 x26 hp26 => ?_)
      obtain ⟨rfl, rfl⟩ := hp26
      refine J_if_eq_b C (tgt := 36) dX6_law_29 (by decide) (fun c29 => ?_) (fun c29 => ?_)
      · skip
        refine J_iconst C (v := nI 0) dX6_law_36 (by decide) ?_
        exact E dX6_law_37 (⟨by rw [R_law, if_pos c4, if_neg c14]; simp only [tnv, c29]; rfl, hA⟩)
      · skip
        refine J_iconst C (v := nI 1) dX6_law_32 (by decide) ?_
        refine J_goto (tgt := 37) C dX6_law_33 (by decide) ?_
        exact E dX6_law_37 (⟨by rw [R_law, if_pos c4, if_neg c14]; simp only [tnv, c29]; rfl, hA⟩)
    · skip
      refine J_bipush C (v := (-3)) dX6_law_17 (by decide) ?_
      exact E dX6_law_19 (⟨by rw [R_law, if_pos c4, if_pos c14] <;> simp only [tnv], hA⟩)
  · skip
    refine J_bipush C (v := (-2)) dX6_law_7 (by decide) ?_
    exact E dX6_law_9 (⟨by rw [R_law, if_neg c4] <;> simp only [tnv], hA⟩)
def rm_X6_carried : Room := ({ frames := 2, cells := 0, slots := 0, locals := 42 })
set_option maxRecDepth 20000 in
theorem c_X6_carried (l : Launch) (Z : EC) (x : Mt) (A : AB) (hA : AbsM x A) (hk : AOK A) (m h : Int32) : MIi l Z (wM Z) yX6_carried cX6_carried 3 rm_X6_carried [.ref (Z.2.1 0), .int m, .int h] x (fun r x1 => r = R_carried A m h ∧ AbsM x1 A) := by
  obtain ⟨hr, hH, hR, hT, hF⟩ := id hA
  obtain ⟨ok, hkH, hkR, hkr⟩ := id hk
  obtain ⟨ok0, ok1, ok2, ok3, ok4, ok5, ok6, ok7⟩ := id ok
  refine MIi_of (own := RX6) (L0 := [some (.ref (Z.2.1 0)), some (.int m), some (.int h)]) (by decide) rfl (Nat.le_of_ble_eq_true rfl) ⟨rfl, rfl, rfl, trivial⟩ ?_
  intro Γ C E
  refine J_aload_n C dX6_carried_0 rfl rfl ?_
  refine J_iload_n C dX6_carried_1 rfl rfl ?_
  refine J_callVz C (q0 := 0) (ci := 6) (N := 33) (As := [.int m]) (c_X6_isMember l Z _ A.1 hr ok _) cw_RX6_154 wd_13_14 wd_13_15 rfl rfl rfl rfl (Nat.le_of_ble_eq_true rfl) rfl rfl (Nat.le_of_ble_eq_true rfl) (Nat.le_of_ble_eq_true rfl) dX6_carried_2 (fun b2 x2 hp2 => ?_)
  obtain ⟨rfl, rfl⟩ := hp2
  refine J_if_ne_d C (tgt := 10) dX6_carried_5 (by decide) (fun c5 => ?_) (fun c5 => ?_)
  · skip
    obtain ⟨mn, hmn, rfl⟩ := rng_nat c5
    have tnm := tn_nI (n := mn) (by omega)
    have gm := ok6 mn hmn
    have hs1 := ok7 (by omega)
    have hst := stp_le (k := A.1.2 2 mn) ok0
    refine J_iload_n C dX6_carried_10 rfl rfl ?_
    refine J_callSz C (As := [.int h]) (c_X6_isDigit l Z _ _) cw_RX6_160 wd_14_17 rfl rfl (Nat.le_of_ble_eq_true rfl) rfl rfl (Nat.le_of_ble_eq_true rfl) (Nat.le_of_ble_eq_true rfl) dX6_carried_11 (fun b11 x11 hp11 => ?_)
    obtain ⟨rfl, rfl⟩ := hp11
    refine J_if_eq_d C (tgt := 36) dX6_carried_14 (by decide) (fun c14 => ?_) (fun c14 => ?_)
    · skip
      refine J_bipush C (v := (-2)) dX6_carried_36 (by decide) ?_
      exact E dX6_carried_38 (⟨by rw [R_carried, if_pos c5, if_neg c14], hA⟩)
    · skip
      obtain ⟨hn, h0, h9, rfl⟩ := rng_nat2 (A := 0) (B := 9) (c14)
      have tnh := tn_nI (n := hn) (by omega)
      refine J_aload_n C dX6_carried_17 rfl rfl ?_
      refine J_aload_n C dX6_carried_18 rfl rfl ?_
      refine G6_poolOf C wd_4_0 dX6_carried_19 ?_
      refine J_iload_n C dX6_carried_22 rfl rfl ?_
      refine LMn_poolOf hr ok C (by omega) dX6_carried_23 ?_
      refine J_aload_n C dX6_carried_24 rfl rfl ?_
      refine J_iload_n C dX6_carried_25 rfl rfl ?_
      refine J_callVi C (q0 := 0) (ci := 6) (N := 33) (As := [.int (nI mn)]) (c_X6_farOf l Z _ A.1 hr ok _ hmn) cw_RX6_157 wd_13_18 wd_13_19 rfl rfl rfl rfl (Nat.le_of_ble_eq_true rfl) rfl rfl (Nat.le_of_ble_eq_true rfl) (Nat.le_of_ble_eq_true rfl) dX6_carried_26 (fun r26 x26 hp26 => ?_)
      obtain ⟨rfl, rfl⟩ := hp26
      refine J_iload_n C dX6_carried_29 rfl rfl ?_
      refine J_callVi C (q0 := 0) (ci := 6) (N := 33) (As := [.int (nI (A.1.2 3 mn)), .int (nI (stp (A.1.1 0) (A.1.2 2 mn))), .int (nI hn)]) (c_X6_carriedFrom l Z _ A.1 hr ok (A.1.2 3 mn) (stp (A.1.1 0) (A.1.2 2 mn)) hn gm.2.1 hst (by omega)) cw_RX6_166 wd_18_8 wd_18_9 rfl rfl rfl rfl (Nat.le_of_ble_eq_true rfl) rfl rfl (Nat.le_of_ble_eq_true rfl) (Nat.le_of_ble_eq_true rfl) dX6_carried_30 (fun r30 x30 hp30 => ?_)
      obtain ⟨rfl, rfl⟩ := hp30
      refine J_goto (tgt := 38) C dX6_carried_33 (by decide) ?_
      exact E dX6_carried_38 (⟨by rw [R_carried, if_pos c5, if_pos c14]; simp only [tnm, tnh]; rfl, hA⟩)
  · skip
    refine J_iconst C (v := (-1)) dX6_carried_8 (by decide) ?_
    exact E dX6_carried_9 (⟨by rw [R_carried, if_neg c5] <;> simp only [tnm, tnh], hA⟩)
def rm_X6_tide : Room := ({ frames := 2, cells := 0, slots := 0, locals := 49 })
set_option maxRecDepth 20000 in
theorem c_X6_tide (l : Launch) (Z : EC) (x : Mt) (A : AB) (hA : AbsM x A) (hk : AOK A) (h : Int32) : MIi l Z (wM Z) yX6_tide cX6_tide 2 rm_X6_tide [.ref (Z.2.1 0), .int h] x (fun r x1 => r = R_tide A h ∧ AbsM x1 (N_tide A h)) := by
  obtain ⟨hr, hH, hR, hT, hF⟩ := id hA
  obtain ⟨ok, hkH, hkR, hkr⟩ := id hk
  obtain ⟨ok0, ok1, ok2, ok3, ok4, ok5, ok6, ok7⟩ := id ok
  refine MIi_of (own := RX6) (L0 := [some (.ref (Z.2.1 0)), some (.int h)]) (by decide) rfl (Nat.le_of_ble_eq_true rfl) ⟨rfl, rfl, trivial⟩ ?_
  intro Γ C E
  refine J_iload_n C dX6_tide_0 rfl rfl ?_
  refine J_callSz C (As := [.int h]) (c_X6_isDigit l Z _ _) cw_RX6_160 wd_14_17 rfl rfl (Nat.le_of_ble_eq_true rfl) rfl rfl (Nat.le_of_ble_eq_true rfl) (Nat.le_of_ble_eq_true rfl) dX6_tide_1 (fun b1 x1 hp1 => ?_)
  obtain ⟨rfl, rfl⟩ := hp1
  refine J_if_ne_d C (tgt := 10) dX6_tide_4 (by decide) (fun c4 => ?_) (fun c4 => ?_)
  · skip
    obtain ⟨hn, h0, h9, rfl⟩ := rng_nat2 (A := 0) (B := 9) (c4)
    have tnh := tn_nI (n := hn) (by omega)
    refine J_aload_n C dX6_tide_10 rfl rfl ?_
    refine G6n_pools hr C wd_10_18 dX6_tide_11 ?_
    refine J_if_ne_n C (tgt := 22) dX6_tide_14 (by decide) (by omega) (fun c14 => ?_) (fun c14 => ?_)
    · skip
      refine J_aload_n C dX6_tide_22 rfl rfl ?_
      refine J_iload_n C dX6_tide_23 rfl rfl ?_
      refine J_callVi C (q0 := 0) (ci := 6) (N := 33) (As := [.int (nI hn)]) (c_X6_carryAll l Z _ A.1 hr ok _ (by omega)) cw_RX6_169 wd_19_3 wd_19_4 rfl rfl rfl rfl (Nat.le_of_ble_eq_true rfl) rfl rfl (Nat.le_of_ble_eq_true rfl) (Nat.le_of_ble_eq_true rfl) dX6_tide_24 (fun r24 x24 hp24 => ?_)
      obtain ⟨rfl, hs24, hf24⟩ := hp24
      exact E dX6_tide_27 (⟨by rw [R_tide, if_pos c4, if_neg c14] <;> simp only [tnh], by rw [N_tide, if_pos c4, if_neg c14]; first | exact hA | (simp only [tnh]; exact F13.abs hf24 hA hs24)⟩)
    · skip
      refine J_bipush C (v := (-3)) dX6_tide_17 (by decide) ?_
      refine J_goto (tgt := 27) C dX6_tide_19 (by decide) ?_
      exact E dX6_tide_27 (⟨by rw [R_tide, if_pos c4, if_pos c14] <;> simp only [tnh], by rw [N_tide, if_pos c4, if_pos c14]; first | exact hA | (simp only [tnh]; exact F13.abs hf24 hA hs24)⟩)
  · skip
    refine J_bipush C (v := (-2)) dX6_tide_7 (by decide) ?_
    exact E dX6_tide_9 (⟨by rw [R_tide, if_neg c4] <;> simp only [tnh], by rw [N_tide, if_neg c4]; first | exact hA | (simp only [tnh]; exact F13.abs hf24 hA hs24)⟩)
def rm_X6_back : Room := ({ frames := 1, cells := 0, slots := 0, locals := 22 })
set_option maxRecDepth 20000 in
theorem c_X6_back (l : Launch) (Z : EC) (x : Mt) (A : AB) (hA : AbsM x A) (hk : AOK A) (k : Int32) : MIi l Z (wM Z) yX6_back cX6_back 2 rm_X6_back [.ref (Z.2.1 0), .int k] x (fun r x1 => r = R_back A k ∧ AbsM x1 (N_back A k)) := by
  obtain ⟨hr, hH, hR, hT, hF⟩ := id hA
  obtain ⟨ok, hkH, hkR, hkr⟩ := id hk
  obtain ⟨ok0, ok1, ok2, ok3, ok4, ok5, ok6, ok7⟩ := id ok
  refine MIi_of (own := RX6) (L0 := [some (.ref (Z.2.1 0)), some (.int k)]) (by decide) rfl (Nat.le_of_ble_eq_true rfl) ⟨rfl, rfl, trivial⟩ ?_
  intro Γ C E
  refine J_iload_n C dX6_back_0 rfl rfl ?_
  refine J_iconst C (v := nI 0) dX6_back_1 (by decide) ?_
  refine J_aload_n C dX6_back_2 rfl rfl ?_
  refine G6_readings C wd_10_19 dX6_back_3 ?_
  rw [show x.1 29 = nI A.2.2.1.1 from hR.1]
  refine J_callSz C (As := [.int k, .int (nI 0), .int (nI A.2.2.1.1)]) (c_X6_within l Z _ _ _ _ (0) (A.2.2.1.1 : Int) (by decide) (nI_i (by omega))) cw_RX6_70 wd_8_21 rfl rfl (Nat.le_of_ble_eq_true rfl) rfl rfl (Nat.le_of_ble_eq_true rfl) (Nat.le_of_ble_eq_true rfl) dX6_back_6 (fun b6 x6 hp6 => ?_)
  obtain ⟨rfl, rfl⟩ := hp6
  refine J_if_ne_d C (tgt := 15) dX6_back_9 (by decide) (fun c9 => ?_) (fun c9 => ?_)
  · skip
    obtain ⟨kn, k0, k9, rfl⟩ := rng_nat2 (A := 0) (B := A.2.2.1.1) c9
    have tnk := tn_nI (n := kn) (by omega)
    refine J_aload_n C dX6_back_15 rfl rfl ?_
    refine J_dup C dX6_back_16 rfl ?_
    refine G6_readings C wd_10_19 dX6_back_17 ?_
    rw [show x.1 29 = nI A.2.2.1.1 from hR.1]
    refine J_iload_n C dX6_back_20 rfl rfl ?_
    refine J_isub C (v := nI (A.2.2.1.1 - kn)) dX6_back_21 (pk_sub (a := A.2.2.1.1) (b := kn) (by omega)) ?_
    refine P6_readings C wd_10_19 dX6_back_22 ?_
    refine J_aload_n C dX6_back_25 rfl rfl ?_
    refine G6_readings C wd_10_19 dX6_back_26 ?_
    rw [show (mI x 29 (nI (A.2.2.1.1 - kn))).1 29 = nI (A.2.2.1.1 - kn) from mI_eq]
    exact E dX6_back_29 (⟨by rw [R_back, if_pos c9] <;> simp only [tnk], by rw [N_back, if_pos c9]; first | exact hA | (simp only [tnk]; exact absM_R hA (by omega))⟩)
  · skip
    refine J_bipush C (v := (-2)) dX6_back_12 (by decide) ?_
    exact E dX6_back_14 (⟨by rw [R_back, if_neg c9] <;> simp only [tnk], by rw [N_back, if_neg c9]; first | exact hA | (simp only [tnk]; exact absM_R hA (by omega))⟩)
def rm_X6_reading : Room := ({ frames := 2, cells := 0, slots := 0, locals := 42 })
set_option maxRecDepth 20000 in
theorem c_X6_reading (l : Launch) (Z : EC) (x : Mt) (A : AB) (hA : AbsM x A) (hk : AOK A) (m h q : Int32) : MIi l Z (wM Z) yX6_reading cX6_reading 4 rm_X6_reading [.ref (Z.2.1 0), .int m, .int h, .int q] x (fun r x1 => r = R_reading A m h q ∧ AbsM x1 (N_reading A m h q)) := by
  obtain ⟨hr, hH, hR, hT, hF⟩ := id hA
  obtain ⟨ok, hkH, hkR, hkr⟩ := id hk
  obtain ⟨ok0, ok1, ok2, ok3, ok4, ok5, ok6, ok7⟩ := id ok
  refine MIi_of (own := RX6) (L0 := [some (.ref (Z.2.1 0)), some (.int m), some (.int h), some (.int q)]) (by decide) rfl (Nat.le_of_ble_eq_true rfl) ⟨rfl, rfl, rfl, rfl, trivial⟩ ?_
  intro Γ C E
  refine J_aload_n C dX6_reading_0 rfl rfl ?_
  refine J_iload_n C dX6_reading_1 rfl rfl ?_
  refine J_callVz C (q0 := 0) (ci := 6) (N := 33) (As := [.int m]) (c_X6_isMember l Z _ A.1 hr ok _) cw_RX6_154 wd_13_14 wd_13_15 rfl rfl rfl rfl (Nat.le_of_ble_eq_true rfl) rfl rfl (Nat.le_of_ble_eq_true rfl) (Nat.le_of_ble_eq_true rfl) dX6_reading_2 (fun b2 x2 hp2 => ?_)
  obtain ⟨rfl, rfl⟩ := hp2
  refine J_if_ne_d C (tgt := 10) dX6_reading_5 (by decide) (fun c5 => ?_) (fun c5 => ?_)
  · skip
    obtain ⟨mn, hmn, rfl⟩ := rng_nat c5
    have tnm := tn_nI (n := mn) (by omega)
    have gm := ok6 mn hmn
    have hs1 := ok7 (by omega)
    refine J_iload_n C dX6_reading_10 rfl rfl ?_
    refine J_callSz C (As := [.int h]) (c_X6_isDigit l Z _ _) cw_RX6_160 wd_14_17 rfl rfl (Nat.le_of_ble_eq_true rfl) rfl rfl (Nat.le_of_ble_eq_true rfl) (Nat.le_of_ble_eq_true rfl) dX6_reading_11 (fun b11 x11 hp11 => ?_)
    obtain ⟨rfl, rfl⟩ := hp11
    refine J_if_ne_d C (tgt := 20) dX6_reading_14 (by decide) (fun c14 => ?_) (fun c14 => ?_)
    · skip
      obtain ⟨hn, h0, h9, rfl⟩ := rng_nat2 (A := 0) (B := 9) (c14)
      have tnh := tn_nI (n := hn) (by omega)
      refine J_aload_n C dX6_reading_20 rfl rfl ?_
      refine J_iload_n C dX6_reading_21 rfl rfl ?_
      refine J_callVz C (q0 := 0) (ci := 6) (N := 33) (As := [.int q]) (c_X6_isPool l Z _ A.1 hr ok _) cw_RX6_145 wd_12_8 wd_12_9 rfl rfl rfl rfl (Nat.le_of_ble_eq_true rfl) rfl rfl (Nat.le_of_ble_eq_true rfl) (Nat.le_of_ble_eq_true rfl) dX6_reading_22 (fun b22 x22 hp22 => ?_)
      obtain ⟨rfl, rfl⟩ := hp22
      refine J_if_ne_d C (tgt := 30) dX6_reading_25 (by decide) (fun c25 => ?_) (fun c25 => ?_)
      · skip
        obtain ⟨qn, hqn, rfl⟩ := rng_nat c25
        have tnq := tn_nI (n := qn) (by omega)
        have gq := ok5 qn hqn
        refine J_aload_n C dX6_reading_30 rfl rfl ?_
        refine G6_readings C wd_10_19 dX6_reading_31 ?_
        rw [show x.1 29 = nI A.2.2.1.1 from hR.1]
        refine J_bipush C (v := nI 8) dX6_reading_34 (by decide) ?_
        refine J_icmp_ne_n C (tgt := 42) dX6_reading_36 (by decide) (by omega) (by omega) (fun c36 => ?_) (fun c36 => ?_)
        · skip
          refine J_aload_n C dX6_reading_42 rfl rfl ?_
          refine G6_readWho C wd_4_9 dX6_reading_43 ?_
          refine J_aload_n C dX6_reading_46 rfl rfl ?_
          refine G6_readings C wd_10_19 dX6_reading_47 ?_
          rw [show x.1 29 = nI A.2.2.1.1 from hR.1]
          refine J_iload_n C dX6_reading_50 rfl rfl ?_
          refine SM_readWho C (by omega) dX6_reading_51 ?_
          refine J_aload_n C dX6_reading_52 rfl rfl ?_
          refine G6_readTide C wd_4_10 dX6_reading_53 ?_
          refine J_aload_n C dX6_reading_56 rfl rfl ?_
          refine G6_readings C wd_10_19 dX6_reading_57 ?_
          rw [show (mA x 30 (upd (x.2 30) A.2.2.1.1 (nI mn))).1 29 = nI A.2.2.1.1 from hR.1]
          refine J_iload_n C dX6_reading_60 rfl rfl ?_
          refine SM_readTide C (by omega) dX6_reading_61 ?_
          refine J_aload_n C dX6_reading_62 rfl rfl ?_
          refine G6_readTo C wd_4_11 dX6_reading_63 ?_
          refine J_aload_n C dX6_reading_66 rfl rfl ?_
          refine G6_readings C wd_10_19 dX6_reading_67 ?_
          rw [show (mA (mA x 30 (upd (x.2 30) A.2.2.1.1 (nI mn))) 31 (upd ((mA x 30 (upd (x.2 30) A.2.2.1.1 (nI mn))).2 31) A.2.2.1.1 (nI hn))).1 29 = nI A.2.2.1.1 from hR.1]
          refine J_iload_n C dX6_reading_70 rfl rfl ?_
          refine SM_readTo C (by omega) dX6_reading_71 ?_
          refine J_aload_n C dX6_reading_72 rfl rfl ?_
          refine J_dup C dX6_reading_73 rfl ?_
          refine G6_readings C wd_10_19 dX6_reading_74 ?_
          rw [show (mA (mA (mA x 30 (upd (x.2 30) A.2.2.1.1 (nI mn))) 31 (upd ((mA x 30 (upd (x.2 30) A.2.2.1.1 (nI mn))).2 31) A.2.2.1.1 (nI hn))) 32 (upd ((mA (mA x 30 (upd (x.2 30) A.2.2.1.1 (nI mn))) 31 (upd ((mA x 30 (upd (x.2 30) A.2.2.1.1 (nI mn))).2 31) A.2.2.1.1 (nI hn))).2 32) A.2.2.1.1 (nI qn))).1 29 = nI A.2.2.1.1 from hR.1]
          refine J_iconst C (v := nI 1) dX6_reading_77 (by decide) ?_
          refine J_iadd C (v := nI (A.2.2.1.1 + 1)) dX6_reading_78 (nI_add _ _) ?_
          refine P6_readings C wd_10_19 dX6_reading_79 ?_
          refine J_aload_n C dX6_reading_82 rfl rfl ?_
          refine G6_readings C wd_10_19 dX6_reading_83 ?_
          rw [show (mI (mA (mA (mA x 30 (upd (x.2 30) A.2.2.1.1 (nI mn))) 31 (upd ((mA x 30 (upd (x.2 30) A.2.2.1.1 (nI mn))).2 31) A.2.2.1.1 (nI hn))) 32 (upd ((mA (mA x 30 (upd (x.2 30) A.2.2.1.1 (nI mn))) 31 (upd ((mA x 30 (upd (x.2 30) A.2.2.1.1 (nI mn))).2 31) A.2.2.1.1 (nI hn))).2 32) A.2.2.1.1 (nI qn))) 29 (nI (A.2.2.1.1 + 1))).1 29 = nI (A.2.2.1.1 + 1) from mI_eq]
          refine J_iconst C (v := nI 1) dX6_reading_86 (by decide) ?_
          refine J_isub C (v := nI ((A.2.2.1.1 + 1) - 1)) dX6_reading_87 (pk_sub (a := A.2.2.1.1 + 1) (b := 1) (by omega)) ?_
          exact E dX6_reading_88 (⟨by rw [R_reading, if_pos c5, if_pos c14, if_pos c25, if_neg c36, Nat.add_sub_cancel], by rw [N_reading, if_pos c5, if_pos c14, if_pos c25, if_neg c36]; simp only [tnm, tnh, tnq]; exact absM_take hA⟩)
        · skip
          refine J_bipush C (v := (-4)) dX6_reading_39 (by decide) ?_
          exact E dX6_reading_41 (⟨by rw [R_reading, if_pos c5, if_pos c14, if_pos c25, if_pos c36], by rw [N_reading, if_pos c5, if_pos c14, if_pos c25, if_pos c36]; first | exact hA | exact hA⟩)
      · skip
        refine J_iconst C (v := (-1)) dX6_reading_28 (by decide) ?_
        exact E dX6_reading_29 (⟨by rw [R_reading, if_pos c5, if_pos c14, if_neg c25], by rw [N_reading, if_pos c5, if_pos c14, if_neg c25]; first | exact hA | exact hA⟩)
    · skip
      refine J_bipush C (v := (-2)) dX6_reading_17 (by decide) ?_
      exact E dX6_reading_19 (⟨by rw [R_reading, if_pos c5, if_neg c14], by rw [N_reading, if_pos c5, if_neg c14]; first | exact hA | exact hA⟩)
  · skip
    refine J_iconst C (v := (-1)) dX6_reading_8 (by decide) ?_
    exact E dX6_reading_9 (⟨by rw [R_reading, if_neg c5], by rw [N_reading, if_neg c5]; first | exact hA | exact hA⟩)
def rm_X6_begins : Room := ({ frames := 0, cells := 0, slots := 0, locals := 0 })
set_option maxRecDepth 20000 in
theorem c_X6_begins (l : Launch) (Z : EC) (x : Mt) (A : AB) (hA : AbsM x A) (hk : AOK A) (v : Int32) : MIv l Z (wM Z) yX6_begins cX6_begins 2 rm_X6_begins [.ref (Z.2.1 0), .int v] x (fun x1 => AbsM x1 (AsT A (trc A.2.2.2.1 v))) := by
  obtain ⟨hr, hH, hR, hT, hF⟩ := id hA
  obtain ⟨ok, hkH, hkR, hkr⟩ := id hk
  obtain ⟨ok0, ok1, ok2, ok3, ok4, ok5, ok6, ok7⟩ := id ok
  refine MIv_of (own := RX6) (L0 := [some (.ref (Z.2.1 0)), some (.int v)]) (by decide) rfl (Nat.le_of_ble_eq_true rfl) ⟨rfl, rfl, trivial⟩ ?_
  intro Γ C E
  refine J_aload_n C dX6_begins_0 rfl rfl ?_
  refine J_bipush C (v := nI 31) dX6_begins_1 (by decide) ?_
  refine J_aload_n C dX6_begins_3 rfl rfl ?_
  refine G6_trace C wd_35_18 dX6_begins_4 ?_
  refine J_imul C (v := (nI 31) * (x.1 1)) dX6_begins_7 (rfl) ?_
  refine J_iload_n C dX6_begins_8 rfl rfl ?_
  refine J_iadd C (v := ((nI 31) * (x.1 1)) + v) dX6_begins_9 (rfl) ?_
  refine P6_trace C wd_35_18 dX6_begins_10 ?_
  exact E dX6_begins_13 (by rw [← hT]; exact absM_T hA)
def rm_X6_tell : Room := ({ frames := 1, cells := 0, slots := 0, locals := 21 })
set_option maxRecDepth 20000 in
theorem c_X6_tell (l : Launch) (Z : EC) (x : Mt) (A : AB) (hA : AbsM x A) (hk : AOK A) (m : Int32) : MIi l Z (wM Z) yX6_tell cX6_tell 3 rm_X6_tell [.ref (Z.2.1 0), .int m] x (fun r x1 => r = R_tell A m ∧ AbsM x1 (N_tell A m)) := by
  obtain ⟨hr, hH, hR, hT, hF⟩ := id hA
  obtain ⟨ok, hkH, hkR, hkr⟩ := id hk
  obtain ⟨ok0, ok1, ok2, ok3, ok4, ok5, ok6, ok7⟩ := id ok
  refine MIi_of (own := RX6) (L0 := [some (.ref (Z.2.1 0)), some (.int m), none]) (by decide) rfl (Nat.le_of_ble_eq_true rfl) ⟨rfl, rfl, trivial⟩ ?_
  intro Γ C E
  refine J_aload_n C dX6_tell_0 rfl rfl ?_
  refine J_iload_n C dX6_tell_1 rfl rfl ?_
  refine J_callVz C (q0 := 0) (ci := 6) (N := 33) (As := [.int m]) (c_X6_isMember l Z _ A.1 hr ok _) cw_RX6_154 wd_13_14 wd_13_15 rfl rfl rfl rfl (Nat.le_of_ble_eq_true rfl) rfl rfl (Nat.le_of_ble_eq_true rfl) (Nat.le_of_ble_eq_true rfl) dX6_tell_2 (fun b2 x2 hp2 => ?_)
  obtain ⟨rfl, rfl⟩ := hp2
  refine J_if_ne_d C (tgt := 10) dX6_tell_5 (by decide) (fun c5 => ?_) (fun c5 => ?_)
  · skip
    obtain ⟨mn, hmn, rfl⟩ := rng_nat c5
    have tnm := tn_nI (n := mn) (by omega)
    have gm := ok6 mn hmn
    have hs1 := ok7 (by omega)
    refine J_aload_n C dX6_tell_10 rfl rfl ?_
    refine G6_view C wd_4_1 dX6_tell_11 ?_
    refine J_iload_n C dX6_tell_14 rfl rfl ?_
    refine LMn_view hr ok C (by omega) dX6_tell_15 ?_
    refine J_istore_n C (L' := [some (.ref (Z.2.1 0)), some (.int (nI mn)), some (.int (nI (A.1.2 4 mn)))]) dX6_tell_16 rfl (by decide) rfl rfl ?_
    refine J_aload_n C dX6_tell_17 rfl rfl ?_
    refine G6_kind C wd_3_23 dX6_tell_18 ?_
    refine J_iload_n C dX6_tell_21 rfl rfl ?_
    refine LMn_kind hr ok C (by omega) dX6_tell_22 ?_
    by_cases s23_1 : A.1.2 2 mn = 1
    · skip
      refine J_lookup C (tgt := 48) dX6_tell_23 rfl (off := 25) (by rw [s23_1]; decide) (by decide) ?_
      refine J_aload_n C dX6_tell_48 rfl rfl ?_
      refine J_iconst C (v := nI 2) dX6_tell_49 (by decide) ?_
      refine J_callVv C (q0 := 0) (ci := 6) (N := 33) (As := [.int (nI 2)]) (c_X6_begins l Z _ A hA hk _) cw_RX6_232 wd_35_15 wd_35_16 rfl rfl rfl rfl (Nat.le_of_ble_eq_true rfl) rfl rfl (Nat.le_of_ble_eq_true rfl) (Nat.le_of_ble_eq_true rfl) dX6_tell_50 (fun x50 hp50 => ?_)
      have hA50 := hp50
      obtain ⟨hr50o, hH50o, hR50o, hT50, hF50⟩ := id hA50
      first | have hr50 : MdR x50 A.1 := hr50o | have hr50 := hr50o
      first | have hH50 : MH x50 A.2.1 := hH50o | have hH50 := hH50o
      first | have hR50 : MR x50 A.2.2.1 := hR50o | have hR50 := hR50o
      refine J_aload_n C dX6_tell_53 rfl rfl ?_
      refine J_iconst C (v := nI 1) dX6_tell_54 (by decide) ?_
      refine J_callVv C (q0 := 0) (ci := 6) (N := 33) (As := [.int (nI 1)]) (c_X6_begins l Z _ (AsT A (trc A.2.2.2.1 (nI 2))) hA50 hk _) cw_RX6_232 wd_35_15 wd_35_16 rfl rfl rfl rfl (Nat.le_of_ble_eq_true rfl) rfl rfl (Nat.le_of_ble_eq_true rfl) (Nat.le_of_ble_eq_true rfl) dX6_tell_55 (fun x55 hp55 => ?_)
      have hA55 := hp55
      obtain ⟨hr55o, hH55o, hR55o, hT55, hF55⟩ := id hA55
      first | have hr55 : MdR x55 A.1 := hr55o | have hr55 := hr55o
      first | have hH55 : MH x55 A.2.1 := hH55o | have hH55 := hH55o
      first | have hR55 : MR x55 A.2.2.1 := hR55o | have hR55 := hR55o
      refine J_iload_n C dX6_tell_58 rfl rfl ?_
      refine J_bipush C (v := nI 100) dX6_tell_59 (by decide) ?_
      refine J_iadd C (v := nI ((A.1.2 4 mn) + 100)) dX6_tell_61 (nI_add _ _) ?_
      exact E dX6_tell_62 (⟨by rw [R_tell, if_pos c5, tnm, if_neg (by omega), if_pos s23_1], by rw [N_tell, if_pos c5, tnm, if_neg (by omega), if_pos s23_1]; exact hA55⟩)
    by_cases s23_2 : A.1.2 2 mn = 2
    · skip
      refine J_lookup C (tgt := 63) dX6_tell_23 rfl (off := 40) (by rw [s23_2]; decide) (by decide) ?_
      refine J_aload_n C dX6_tell_63 rfl rfl ?_
      refine J_iconst C (v := nI 3) dX6_tell_64 (by decide) ?_
      refine J_callVv C (q0 := 0) (ci := 6) (N := 33) (As := [.int (nI 3)]) (c_X6_begins l Z _ A hA hk _) cw_RX6_232 wd_35_15 wd_35_16 rfl rfl rfl rfl (Nat.le_of_ble_eq_true rfl) rfl rfl (Nat.le_of_ble_eq_true rfl) (Nat.le_of_ble_eq_true rfl) dX6_tell_65 (fun x65 hp65 => ?_)
      have hA65 := hp65
      obtain ⟨hr65o, hH65o, hR65o, hT65, hF65⟩ := id hA65
      first | have hr65 : MdR x65 A.1 := hr65o | have hr65 := hr65o
      first | have hH65 : MH x65 A.2.1 := hH65o | have hH65 := hH65o
      first | have hR65 : MR x65 A.2.2.1 := hR65o | have hR65 := hR65o
      refine J_aload_n C dX6_tell_68 rfl rfl ?_
      refine J_iconst C (v := nI 2) dX6_tell_69 (by decide) ?_
      refine J_callVv C (q0 := 0) (ci := 6) (N := 33) (As := [.int (nI 2)]) (c_X6_begins l Z _ (AsT A (trc A.2.2.2.1 (nI 3))) hA65 hk _) cw_RX6_232 wd_35_15 wd_35_16 rfl rfl rfl rfl (Nat.le_of_ble_eq_true rfl) rfl rfl (Nat.le_of_ble_eq_true rfl) (Nat.le_of_ble_eq_true rfl) dX6_tell_70 (fun x70 hp70 => ?_)
      have hA70 := hp70
      obtain ⟨hr70o, hH70o, hR70o, hT70, hF70⟩ := id hA70
      first | have hr70 : MdR x70 A.1 := hr70o | have hr70 := hr70o
      first | have hH70 : MH x70 A.2.1 := hH70o | have hH70 := hH70o
      first | have hR70 : MR x70 A.2.2.1 := hR70o | have hR70 := hR70o
      refine J_aload_n C dX6_tell_73 rfl rfl ?_
      refine J_iconst C (v := nI 1) dX6_tell_74 (by decide) ?_
      refine J_callVv C (q0 := 0) (ci := 6) (N := 33) (As := [.int (nI 1)]) (c_X6_begins l Z _ (AsT A (trc (trc A.2.2.2.1 (nI 3)) (nI 2))) hA70 hk _) cw_RX6_232 wd_35_15 wd_35_16 rfl rfl rfl rfl (Nat.le_of_ble_eq_true rfl) rfl rfl (Nat.le_of_ble_eq_true rfl) (Nat.le_of_ble_eq_true rfl) dX6_tell_75 (fun x75 hp75 => ?_)
      have hA75 := hp75
      obtain ⟨hr75o, hH75o, hR75o, hT75, hF75⟩ := id hA75
      first | have hr75 : MdR x75 A.1 := hr75o | have hr75 := hr75o
      first | have hH75 : MH x75 A.2.1 := hH75o | have hH75 := hH75o
      first | have hR75 : MR x75 A.2.2.1 := hR75o | have hR75 := hR75o
      refine J_aload_n C dX6_tell_78 rfl rfl ?_
      refine J_iconst C (v := nI 1) dX6_tell_79 (by decide) ?_
      refine J_callVv C (q0 := 0) (ci := 6) (N := 33) (As := [.int (nI 1)]) (c_X6_begins l Z _ (AsT A (trc (trc (trc A.2.2.2.1 (nI 3)) (nI 2)) (nI 1))) hA75 hk _) cw_RX6_232 wd_35_15 wd_35_16 rfl rfl rfl rfl (Nat.le_of_ble_eq_true rfl) rfl rfl (Nat.le_of_ble_eq_true rfl) (Nat.le_of_ble_eq_true rfl) dX6_tell_80 (fun x80 hp80 => ?_)
      have hA80 := hp80
      obtain ⟨hr80o, hH80o, hR80o, hT80, hF80⟩ := id hA80
      first | have hr80 : MdR x80 A.1 := hr80o | have hr80 := hr80o
      first | have hH80 : MH x80 A.2.1 := hH80o | have hH80 := hH80o
      first | have hR80 : MR x80 A.2.2.1 := hR80o | have hR80 := hR80o
      refine J_iconst C (v := nI 2) dX6_tell_83 (by decide) ?_
      refine J_iload_n C dX6_tell_84 rfl rfl ?_
      refine J_imul C (v := nI (2 * (A.1.2 4 mn))) dX6_tell_85 (pk_mul _ _) ?_
      refine J_bipush C (v := nI 100) dX6_tell_86 (by decide) ?_
      refine J_iadd C (v := nI ((2 * (A.1.2 4 mn)) + 100)) dX6_tell_88 (nI_add _ _) ?_
      exact E dX6_tell_89 (⟨by rw [R_tell, if_pos c5, tnm, if_neg (by omega), if_neg s23_1], by rw [N_tell, if_pos c5, tnm, if_neg (by omega), if_neg s23_1]; exact hA80⟩)
    refine J_lookup C (tgt := 90) dX6_tell_23 rfl (off := 67) (by show Op.lookupswitch.offset [((1 : Int), (25 : Int)), ((2 : Int), (40 : Int))] _ _ = _; rw [lv_osw (k := nI 1) (fun e => s23_1 ((nI_eq (by omega) (by decide)).mp e)) (by decide), lv_osw (k := nI 2) (fun e => s23_2 ((nI_eq (by omega) (by decide)).mp e)) (by decide)]; rfl) (by decide) ?_
    refine J_aload_n C dX6_tell_90 rfl rfl ?_
    refine J_iconst C (v := nI 1) dX6_tell_91 (by decide) ?_
    refine J_callVv C (q0 := 0) (ci := 6) (N := 33) (As := [.int (nI 1)]) (c_X6_begins l Z _ A hA hk _) cw_RX6_232 wd_35_15 wd_35_16 rfl rfl rfl rfl (Nat.le_of_ble_eq_true rfl) rfl rfl (Nat.le_of_ble_eq_true rfl) (Nat.le_of_ble_eq_true rfl) dX6_tell_92 (fun x92 hp92 => ?_)
    have hA92 := hp92
    obtain ⟨hr92o, hH92o, hR92o, hT92, hF92⟩ := id hA92
    first | have hr92 : MdR x92 A.1 := hr92o | have hr92 := hr92o
    first | have hH92 : MH x92 A.2.1 := hH92o | have hH92 := hH92o
    first | have hR92 : MR x92 A.2.2.1 := hR92o | have hR92 := hR92o
    refine J_iload_n C dX6_tell_95 rfl rfl ?_
    exact E dX6_tell_96 (⟨by rw [R_tell, if_pos c5, tnm, if_pos (by omega)], by rw [N_tell, if_pos c5, tnm, if_pos (by omega)]; exact hA92⟩)
  · skip
    refine J_iconst C (v := (-1)) dX6_tell_8 (by decide) ?_
    exact E dX6_tell_9 (⟨by rw [R_tell, if_neg c5], by rw [N_tell, if_neg c5]; exact hA⟩)
def rm_X6_name : Room := ({ frames := 1, cells := 0, slots := 0, locals := 21 })
set_option maxRecDepth 20000 in
theorem c_X6_name (l : Launch) (Z : EC) (x : Mt) (A : AB) (hA : AbsM x A) (hk : AOK A) (m : Int32) : MIi l Z (wM Z) yX6_name cX6_name 2 rm_X6_name [.ref (Z.2.1 0), .int m] x (fun r x1 => r = R_name A m ∧ AbsM x1 (N_name A m)) := by
  obtain ⟨hr, hH, hR, hT, hF⟩ := id hA
  obtain ⟨ok, hkH, hkR, hkr⟩ := id hk
  obtain ⟨ok0, ok1, ok2, ok3, ok4, ok5, ok6, ok7⟩ := id ok
  refine MIi_of (own := RX6) (L0 := [some (.ref (Z.2.1 0)), some (.int m)]) (by decide) rfl (Nat.le_of_ble_eq_true rfl) ⟨rfl, rfl, trivial⟩ ?_
  intro Γ C E
  refine J_aload_n C dX6_name_0 rfl rfl ?_
  refine J_iload_n C dX6_name_1 rfl rfl ?_
  refine J_callVz C (q0 := 0) (ci := 6) (N := 33) (As := [.int m]) (c_X6_isMember l Z _ A.1 hr ok _) cw_RX6_154 wd_13_14 wd_13_15 rfl rfl rfl rfl (Nat.le_of_ble_eq_true rfl) rfl rfl (Nat.le_of_ble_eq_true rfl) (Nat.le_of_ble_eq_true rfl) dX6_name_2 (fun b2 x2 hp2 => ?_)
  obtain ⟨rfl, rfl⟩ := hp2
  refine J_if_ne_d C (tgt := 10) dX6_name_5 (by decide) (fun c5 => ?_) (fun c5 => ?_)
  · skip
    obtain ⟨mn, hmn, rfl⟩ := rng_nat c5
    have tnm := tn_nI (n := mn) (by omega)
    have gm := ok6 mn hmn
    have hs1 := ok7 (by omega)
    refine J_aload_n C dX6_name_10 rfl rfl ?_
    refine J_aload_n C dX6_name_11 rfl rfl ?_
    refine G6_kind C wd_3_23 dX6_name_12 ?_
    refine J_iload_n C dX6_name_15 rfl rfl ?_
    refine LMn_kind hr ok C (by omega) dX6_name_16 ?_
    refine J_iconst C (v := nI 2) dX6_name_17 (by decide) ?_
    refine J_icmp_ne_n C (tgt := 25) dX6_name_18 (by decide) (by omega) (by omega) (fun c18 => ?_) (fun c18 => ?_)
    · skip
      refine J_iconst C (v := nI 4) dX6_name_25 (by decide) ?_
      refine J_callVv C (q0 := 0) (ci := 6) (N := 33) (As := [.int (nI 4)]) (c_X6_begins l Z _ A hA hk _) cw_RX6_232 wd_35_15 wd_35_16 rfl rfl rfl rfl (Nat.le_of_ble_eq_true rfl) rfl rfl (Nat.le_of_ble_eq_true rfl) (Nat.le_of_ble_eq_true rfl) dX6_name_26 (fun x26 hp26 => ?_)
      have hA26 := hp26
      obtain ⟨hr26o, hH26o, hR26o, hT26, hF26⟩ := id hA26
      first | have hr26 : MdR x26 A.1 := hr26o | have hr26 := hr26o
      first | have hH26 : MH x26 A.2.1 := hH26o | have hH26 := hH26o
      first | have hR26 : MR x26 A.2.2.1 := hR26o | have hR26 := hR26o
      refine J_aload_n C dX6_name_29 rfl rfl ?_
      refine G6_kind C wd_3_23 dX6_name_30 ?_
      refine J_iload_n C dX6_name_33 rfl rfl ?_
      refine LMn_kind hr26 ok C (by omega) dX6_name_34 ?_
      refine J_iconst C (v := nI 2) dX6_name_35 (by decide) ?_
      refine J_icmp_ne_n C (tgt := 44) dX6_name_36 (by decide) (by omega) (by omega) (fun c36 => ?_) (fun c36 => absurd c36 c18)
      refine J_iload_n C dX6_name_44 rfl rfl ?_
      exact E dX6_name_45 (⟨by rw [R_name, if_pos c5, tnm, if_neg c18], by rw [N_name, if_pos c5, tnm, if_neg c18]; first | exact hA26 | exact hA26⟩)
    · skip
      refine J_iconst C (v := nI 5) dX6_name_21 (by decide) ?_
      refine J_goto (tgt := 26) C dX6_name_22 (by decide) ?_
      refine J_callVv C (q0 := 0) (ci := 6) (N := 33) (As := [.int (nI 5)]) (c_X6_begins l Z _ A hA hk _) cw_RX6_232 wd_35_15 wd_35_16 rfl rfl rfl rfl (Nat.le_of_ble_eq_true rfl) rfl rfl (Nat.le_of_ble_eq_true rfl) (Nat.le_of_ble_eq_true rfl) dX6_name_26 (fun x26 hp26 => ?_)
      have hA26 := hp26
      obtain ⟨hr26o, hH26o, hR26o, hT26, hF26⟩ := id hA26
      first | have hr26 : MdR x26 A.1 := hr26o | have hr26 := hr26o
      first | have hH26 : MH x26 A.2.1 := hH26o | have hH26 := hH26o
      first | have hR26 : MR x26 A.2.2.1 := hR26o | have hR26 := hR26o
      refine J_aload_n C dX6_name_29 rfl rfl ?_
      refine G6_kind C wd_3_23 dX6_name_30 ?_
      refine J_iload_n C dX6_name_33 rfl rfl ?_
      refine LMn_kind hr26 ok C (by omega) dX6_name_34 ?_
      refine J_iconst C (v := nI 2) dX6_name_35 (by decide) ?_
      refine J_icmp_ne_n C (tgt := 44) dX6_name_36 (by decide) (by omega) (by omega) (fun c36 => absurd c18 c36) (fun c36 => ?_)
      refine J_bipush C (v := nI 60) dX6_name_39 (by decide) ?_
      refine J_goto (tgt := 45) C dX6_name_41 (by decide) ?_
      exact E dX6_name_45 (⟨by rw [R_name, if_pos c5, tnm, if_pos c18], by rw [N_name, if_pos c5, tnm, if_pos c18]; first | exact hA26 | exact hA26⟩)
  · skip
    refine J_iconst C (v := (-1)) dX6_name_8 (by decide) ?_
    exact E dX6_name_9 (⟨by rw [R_name, if_neg c5], by rw [N_name, if_neg c5]; first | exact hA | exact hA⟩)
def rm_X6_fails : Room := ({ frames := 0, cells := 0, slots := 0, locals := 0 })
set_option maxRecDepth 20000 in
theorem c_X6_fails (l : Launch) (Z : EC) (x : Mt) (A : AB) (hA : AbsM x A) (hk : AOK A) (f : Nat) : MIi l Z (wM Z) yX6_fails cX6_fails 2 rm_X6_fails [.ref (Z.2.1 0), .int (nI f)] x (fun r x1 => r = (-10) - nI f ∧ AbsM x1 (AsF A (nI f))) := by
  obtain ⟨hr, hH, hR, hT, hF⟩ := id hA
  obtain ⟨ok, hkH, hkR, hkr⟩ := id hk
  obtain ⟨ok0, ok1, ok2, ok3, ok4, ok5, ok6, ok7⟩ := id ok
  refine MIi_of (own := RX6) (L0 := [some (.ref (Z.2.1 0)), some (.int (nI f))]) (by decide) rfl (Nat.le_of_ble_eq_true rfl) ⟨rfl, rfl, trivial⟩ ?_
  intro Γ C E
  refine J_aload_n C dX6_fails_0 rfl rfl ?_
  refine J_iload_n C dX6_fails_1 rfl rfl ?_
  refine P6_fault C wd_8_14 dX6_fails_2 ?_
  refine J_bipush C (v := (-10)) dX6_fails_5 (by decide) ?_
  refine J_iload_n C dX6_fails_7 rfl rfl ?_
  refine J_isub C (v := (-10) - nI f) dX6_fails_8 (rfl) ?_
  exact E dX6_fails_9 (⟨rfl, absM_F hA⟩)
def rm_X6_lost : Room := ({ frames := 0, cells := 0, slots := 0, locals := 0 })
set_option maxRecDepth 20000 in
theorem c_X6_lost (l : Launch) (Z : EC) (x : Mt) (A : AB) (hA : AbsM x A) (hk : AOK A) (f : Nat) : MIl l Z (wM Z) yX6_lost cX6_lost 2 rm_X6_lost [.ref (Z.2.1 0), .int (nI f)] x (fun r x1 => r = LOSTv ∧ AbsM x1 (AsF A (nI f))) := by
  obtain ⟨hr, hH, hR, hT, hF⟩ := id hA
  obtain ⟨ok, hkH, hkR, hkr⟩ := id hk
  obtain ⟨ok0, ok1, ok2, ok3, ok4, ok5, ok6, ok7⟩ := id ok
  refine MIl_of (own := RX6) (L0 := [some (.ref (Z.2.1 0)), some (.int (nI f))]) (by decide) rfl (Nat.le_of_ble_eq_true rfl) ⟨rfl, rfl, trivial⟩ ?_
  intro Γ C E
  refine J_aload_n C dX6_lost_0 rfl rfl ?_
  refine J_iload_n C dX6_lost_1 rfl rfl ?_
  refine P6_fault C wd_8_14 dX6_lost_2 ?_
  refine J_ldc2 C wd_31_22 dX6_lost_5 ?_
  exact E dX6_lost_8 (⟨rfl, absM_F hA⟩)
def rm_X6_as : Room := ({ frames := 1, cells := 0, slots := 0, locals := 22 })
set_option maxRecDepth 20000 in
theorem c_X6_as (l : Launch) (Z : EC) (x : Mt) (A : AB) (hA : AbsM x A) (hk : AOK A) (m k : Int32) : MIi l Z (wM Z) yX6_as cX6_as 3 rm_X6_as [.ref (Z.2.1 0), .int m, .int k] x (fun r x1 => r = R_as A m k ∧ AbsM x1 (N_as A m k)) := by
  obtain ⟨hr, hH, hR, hT, hF⟩ := id hA
  obtain ⟨ok, hkH, hkR, hkr⟩ := id hk
  obtain ⟨ok0, ok1, ok2, ok3, ok4, ok5, ok6, ok7⟩ := id ok
  refine MIi_of (own := RX6) (L0 := [some (.ref (Z.2.1 0)), some (.int m), some (.int k)]) (by decide) rfl (Nat.le_of_ble_eq_true rfl) ⟨rfl, rfl, rfl, trivial⟩ ?_
  intro Γ C E
  refine J_aload_n C dX6_as_0 rfl rfl ?_
  refine J_iconst C (v := nI 0) dX6_as_1 (by decide) ?_
  refine P6_fault C wd_8_14 dX6_as_2 ?_
  have hAz := absM_F (v := nI 0) hA
  generalize mI x 0 (nI 0) = x0 at hAz ⊢
  obtain ⟨hr2o, hH2o, hR2o, hT2, hF2⟩ := id hAz
  first | have hr2 : MdR x0 A.1 := hr2o | have hr2 := hr2o
  first | have hH2 : MH x0 A.2.1 := hH2o | have hH2 := hH2o
  first | have hR2 : MR x0 A.2.2.1 := hR2o | have hR2 := hR2o
  refine J_aload_n C dX6_as_5 rfl rfl ?_
  refine J_iload_n C dX6_as_6 rfl rfl ?_
  refine J_callVz C (q0 := 0) (ci := 6) (N := 33) (As := [.int m]) (c_X6_isMember l Z _ A.1 hr2 ok _) cw_RX6_154 wd_13_14 wd_13_15 rfl rfl rfl rfl (Nat.le_of_ble_eq_true rfl) rfl rfl (Nat.le_of_ble_eq_true rfl) (Nat.le_of_ble_eq_true rfl) dX6_as_7 (fun b7 x7 hp7 => ?_)
  obtain ⟨rfl, rfl⟩ := hp7
  refine J_if_ne_d C (tgt := 15) dX6_as_10 (by decide) (fun c10 => ?_) (fun c10 => ?_)
  · skip
    obtain ⟨mn, hmn, rfl⟩ := rng_nat c10
    have tnm := tn_nI (n := mn) (by omega)
    have gm := ok6 mn hmn
    have hs1 := ok7 (by omega)
    refine J_iload_n C dX6_as_15 rfl rfl ?_
    refine J_iconst C (v := nI 0) dX6_as_16 (by decide) ?_
    refine J_iconst C (v := nI 2) dX6_as_17 (by decide) ?_
    refine J_callSz C (As := [.int k, .int (nI 0), .int (nI 2)]) (c_X6_within l Z _ _ _ _ (0) (2) (by decide) (by decide)) cw_RX6_70 wd_8_21 rfl rfl (Nat.le_of_ble_eq_true rfl) rfl rfl (Nat.le_of_ble_eq_true rfl) (Nat.le_of_ble_eq_true rfl) dX6_as_18 (fun b18 x18 hp18 => ?_)
    obtain ⟨rfl, rfl⟩ := hp18
    refine J_if_ne_d C (tgt := 27) dX6_as_21 (by decide) (fun c21 => ?_) (fun c21 => ?_)
    · skip
      obtain ⟨kn, k0, k9, rfl⟩ := rng_nat2 (A := 0) (B := 2) (c21)
      have tnk := tn_nI (n := kn) (by omega)
      refine J_aload_n C dX6_as_27 rfl rfl ?_
      refine G6_kind C wd_3_23 dX6_as_28 ?_
      refine J_iload_n C dX6_as_31 rfl rfl ?_
      refine LMn_kind hr2 ok C (by omega) dX6_as_32 ?_
      refine J_iload_n C dX6_as_33 rfl rfl ?_
      refine J_icmp_lt_n C (tgt := 41) dX6_as_34 (by decide) (by omega) (by omega) (fun c34 => ?_) (fun c34 => ?_)
      · skip
        refine J_aload_n C dX6_as_41 rfl rfl ?_
        refine J_iconst C (v := nI 2) dX6_as_42 (by decide) ?_
        refine J_callVi C (q0 := 0) (ci := 6) (N := 33) (As := [.int (nI 2)]) (c_X6_fails l Z _ (AsF A (nI 0)) hAz hk _) cw_RX6_94 wd_9_7 wd_9_8 rfl rfl rfl rfl (Nat.le_of_ble_eq_true rfl) rfl rfl (Nat.le_of_ble_eq_true rfl) (Nat.le_of_ble_eq_true rfl) dX6_as_43 (fun r43 x43 hp43 => ?_)
        obtain ⟨rfl, hA43⟩ := hp43
        obtain ⟨hr43o, hH43o, hR43o, hT43, hF43⟩ := id hA43
        first | have hr43 : MdR x43 A.1 := hr43o | have hr43 := hr43o
        first | have hH43 : MH x43 A.2.1 := hH43o | have hH43 := hH43o
        first | have hR43 : MR x43 A.2.2.1 := hR43o | have hR43 := hR43o
        exact E dX6_as_46 (⟨by rw [R_as, if_pos c10, if_pos c21, tnm, tnk, if_pos (show A.1.2 2 mn < kn by omega)] <;> first | rfl | decide, by rw [N_as, if_pos c10, if_pos c21, tnm, tnk, if_pos (show A.1.2 2 mn < kn by omega)]; exact hA43⟩)
      · skip
        refine J_iconst C (v := nI 1) dX6_as_37 (by decide) ?_
        refine J_goto (tgt := 46) C dX6_as_38 (by decide) ?_
        exact E dX6_as_46 (⟨by rw [R_as, if_pos c10, if_pos c21, tnm, tnk, if_neg (show ¬ A.1.2 2 mn < kn by omega)] <;> first | rfl | decide, by rw [N_as, if_pos c10, if_pos c21, tnm, tnk, if_neg (show ¬ A.1.2 2 mn < kn by omega)]; exact hAz⟩)
    · skip
      refine J_bipush C (v := (-2)) dX6_as_24 (by decide) ?_
      exact E dX6_as_26 (⟨by rw [R_as, if_pos c10, if_neg c21] <;> first | rfl | decide, by rw [N_as, if_pos c10, if_neg c21]; exact hAz⟩)
  · skip
    refine J_iconst C (v := (-1)) dX6_as_13 (by decide) ?_
    exact E dX6_as_14 (⟨by rw [R_as, if_neg c10] <;> first | rfl | decide, by rw [N_as, if_neg c10]; exact hAz⟩)
def rm_X6_trace : Room := ({ frames := 0, cells := 0, slots := 0, locals := 0 })
set_option maxRecDepth 20000 in
theorem c_X6_trace (l : Launch) (Z : EC) (x : Mt) (A : AB) (hA : AbsM x A) (hk : AOK A)  : MIi l Z (wM Z) yX6_trace cX6_trace 1 rm_X6_trace [.ref (Z.2.1 0)] x (fun r x1 => r = A.2.2.2.1 ∧ AbsM x1 A) := by
  obtain ⟨hr, hH, hR, hT, hF⟩ := id hA
  obtain ⟨ok, hkH, hkR, hkr⟩ := id hk
  obtain ⟨ok0, ok1, ok2, ok3, ok4, ok5, ok6, ok7⟩ := id ok
  refine MIi_of (own := RX6) (L0 := [some (.ref (Z.2.1 0))]) (by decide) rfl (Nat.le_of_ble_eq_true rfl) ⟨rfl, trivial⟩ ?_
  intro Γ C E
  refine J_aload_n C dX6_trace_0 rfl rfl ?_
  refine G6_trace C wd_35_18 dX6_trace_1 ?_
  exact E dX6_trace_4 (⟨hT, hA⟩)
def rm_X6_fault : Room := ({ frames := 0, cells := 0, slots := 0, locals := 0 })
set_option maxRecDepth 20000 in
theorem c_X6_fault (l : Launch) (Z : EC) (x : Mt) (A : AB) (hA : AbsM x A) (hk : AOK A)  : MIi l Z (wM Z) yX6_fault cX6_fault 1 rm_X6_fault [.ref (Z.2.1 0)] x (fun r x1 => r = A.2.2.2.2 ∧ AbsM x1 A) := by
  obtain ⟨hr, hH, hR, hT, hF⟩ := id hA
  obtain ⟨ok, hkH, hkR, hkr⟩ := id hk
  obtain ⟨ok0, ok1, ok2, ok3, ok4, ok5, ok6, ok7⟩ := id ok
  refine MIi_of (own := RX6) (L0 := [some (.ref (Z.2.1 0))]) (by decide) rfl (Nat.le_of_ble_eq_true rfl) ⟨rfl, trivial⟩ ?_
  intro Γ C E
  refine J_aload_n C dX6_fault_0 rfl rfl ?_
  refine G6_fault C wd_8_14 dX6_fault_1 ?_
  exact E dX6_fault_4 (⟨hF, hA⟩)
def rm_X6_many : Room := ({ frames := 0, cells := 0, slots := 0, locals := 0 })
set_option maxRecDepth 20000 in
theorem c_X6_many (l : Launch) (Z : EC) (x : Mt) (A : AB) (hA : AbsM x A) (hk : AOK A) (w : Int32) : MIi l Z (wM Z) yX6_many cX6_many 2 rm_X6_many [.ref (Z.2.1 0), .int w] x (fun r x1 => r = R_many A w ∧ AbsM x1 A) := by
  obtain ⟨hr, hH, hR, hT, hF⟩ := id hA
  obtain ⟨ok, hkH, hkR, hkr⟩ := id hk
  obtain ⟨ok0, ok1, ok2, ok3, ok4, ok5, ok6, ok7⟩ := id ok
  refine MIi_of (own := RX6) (L0 := [some (.ref (Z.2.1 0)), some (.int w)]) (by decide) rfl (Nat.le_of_ble_eq_true rfl) ⟨rfl, rfl, trivial⟩ ?_
  intro Γ C E
  refine J_iload_n C dX6_many_0 rfl rfl ?_
  by_cases s1_0 : w = nI 0
  · skip
    refine J_tabIn C (tgt := 40) dX6_many_1 (by rw [s1_0]; decide) (by rw [s1_0]; decide) (by rw [s1_0]; rfl) (by decide) ?_
    refine J_aload_n C dX6_many_40 rfl rfl ?_
    refine G6n_members hr C wd_8_16 dX6_many_41 ?_
    exact E dX6_many_44 (⟨by rw [R_many, if_pos s1_0], hA⟩)
  by_cases s1_1 : w = nI 1
  · skip
    refine J_tabIn C (tgt := 45) dX6_many_1 (by rw [s1_1]; decide) (by rw [s1_1]; decide) (by rw [s1_1]; rfl) (by decide) ?_
    refine J_aload_n C dX6_many_45 rfl rfl ?_
    refine G6n_pools hr C wd_10_18 dX6_many_46 ?_
    exact E dX6_many_49 (⟨by rw [R_many, if_neg s1_0, if_pos s1_1], hA⟩)
  by_cases s1_2 : w = nI 2
  · skip
    refine J_tabIn C (tgt := 50) dX6_many_1 (by rw [s1_2]; decide) (by rw [s1_2]; decide) (by rw [s1_2]; rfl) (by decide) ?_
    refine J_aload_n C dX6_many_50 rfl rfl ?_
    refine G6n_stream hr C wd_10_15 dX6_many_51 ?_
    exact E dX6_many_54 (⟨by rw [R_many, if_neg s1_0, if_neg s1_1, if_pos s1_2], hA⟩)
  by_cases s1_3 : w = nI 3
  · skip
    refine J_tabIn C (tgt := 55) dX6_many_1 (by rw [s1_3]; decide) (by rw [s1_3]; decide) (by rw [s1_3]; rfl) (by decide) ?_
    refine J_aload_n C dX6_many_55 rfl rfl ?_
    refine G6n_mild hr C wd_10_16 dX6_many_56 ?_
    exact E dX6_many_59 (⟨by rw [R_many, if_neg s1_0, if_neg s1_1, if_neg s1_2, if_pos s1_3], hA⟩)
  by_cases s1_4 : w = nI 4
  · skip
    refine J_tabIn C (tgt := 60) dX6_many_1 (by rw [s1_4]; decide) (by rw [s1_4]; decide) (by rw [s1_4]; rfl) (by decide) ?_
    refine J_aload_n C dX6_many_60 rfl rfl ?_
    refine G6n_leapNow hr C wd_10_17 dX6_many_61 ?_
    exact E dX6_many_64 (⟨by rw [R_many, if_neg s1_0, if_neg s1_1, if_neg s1_2, if_neg s1_3, if_pos s1_4], hA⟩)
  by_cases s1_5 : w = nI 5
  · skip
    refine J_tabIn C (tgt := 65) dX6_many_1 (by rw [s1_5]; decide) (by rw [s1_5]; decide) (by rw [s1_5]; rfl) (by decide) ?_
    refine J_aload_n C dX6_many_65 rfl rfl ?_
    refine G6_readings C wd_10_19 dX6_many_66 ?_
    rw [show x.1 29 = nI A.2.2.1.1 from hR.1]
    exact E dX6_many_69 (⟨by rw [R_many, if_neg s1_0, if_neg s1_1, if_neg s1_2, if_neg s1_3, if_neg s1_4, if_pos s1_5], hA⟩)
  refine J_tabOut C (tgt := 70) dX6_many_1 (tab_out (lo := 0) (hi := 5) (fun z h1 h2 => by rcases (show z = 0 ∨ z = 1 ∨ z = 2 ∨ z = 3 ∨ z = 4 ∨ z = 5 by omega) with rfl | rfl | rfl | rfl | rfl | rfl <;> assumption)) (by decide) ?_
  refine J_bipush C (v := (-2)) dX6_many_70 (by decide) ?_
  exact E dX6_many_72 (⟨by rw [R_many, if_neg s1_0, if_neg s1_1, if_neg s1_2, if_neg s1_3, if_neg s1_4, if_neg s1_5], hA⟩)
