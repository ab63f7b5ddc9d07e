/-! ways of fewest moves -/
def fst (p : Nat → Bool) : Nat → Nat
  | 0 => 0
  | n + 1 => if fst p n < n then fst p n else if p n then n else n + 1
theorem fst_le (p : Nat → Bool) : ∀ n, fst p n ≤ n
  | 0 => Nat.le_refl 0
  | n + 1 => by
    have h := fst_le p n
    show (if fst p n < n then fst p n else if p n then n else n + 1) ≤ n + 1
    split
    · omega
    · split <;> omega
theorem fst_hit {p : Nat → Bool} {i : Nat} (h0 : ¬ fst p i < i) (h : p i = true) : ∀ {n : Nat}, i < n → fst p n = i
  | 0, h2 => absurd h2 (Nat.not_lt_zero i)
  | n + 1, h2 => by
    show (if fst p n < n then fst p n else if p n then n else n + 1) = i
    by_cases e : i = n
    · subst e; rw [if_neg h0, if_pos h]
    · rw [fst_hit h0 h (show i < n by omega), if_pos (by omega)]
theorem fst_go {p : Nat → Bool} {i : Nat} (h0 : ¬ fst p i < i) (h : ¬ p i = true) : ¬ fst p (i + 1) < i + 1 := by
  show ¬ (if fst p i < i then fst p i else if p i then i else i + 1) < i + 1
  rw [if_neg h0, if_neg h]; omega
theorem fst_p {p : Nat → Bool} : ∀ {n : Nat}, fst p n < n → p (fst p n) = true
  | 0, h => absurd h (Nat.not_lt_zero _)
  | n + 1, h => by
    have e : fst p (n + 1) = (if fst p n < n then fst p n else if p n then n else n + 1) := rfl
    by_cases h1 : fst p n < n
    · rw [e, if_pos h1]; exact fst_p h1
    · by_cases h2 : p n = true
      · rw [e, if_neg h1, if_pos h2]; exact h2
      · rw [e, if_neg h1, if_neg h2] at h; omega
theorem fst_ex {p : Nat → Bool} {i : Nat} (h : p i = true) : ∀ {n : Nat}, i < n → fst p n < n
  | 0, h2 => absurd h2 (Nat.not_lt_zero i)
  | n + 1, h2 => by
    show (if fst p n < n then fst p n else if p n then n else n + 1) < n + 1
    by_cases e : fst p n < n
    · rw [if_pos e]; omega
    · rw [if_neg e]
      by_cases e2 : i = n
      · subst e2; rw [if_pos h]; omega
      · exact absurd (fst_ex h (show i < n by omega)) e
theorem fst_min {p : Nat → Bool} : ∀ {n : Nat} {j : Nat}, j < fst p n → ¬ p j = true
  | 0, j, h => absurd h (Nat.not_lt_zero j)
  | n + 1, j, h => by
    have e : fst p (n + 1) = (if fst p n < n then fst p n else if p n then n else n + 1) := rfl
    rw [e] at h
    by_cases h1 : fst p n < n
    · rw [if_pos h1] at h; exact fst_min h
    · have hn : fst p n = n := by have := fst_le p n; omega
      rw [if_neg h1] at h
      by_cases h2 : p n = true
      · rw [if_pos h2] at h; exact fst_min (n := n) (by omega)
      · rw [if_neg h2] at h
        by_cases e2 : j = n
        · subst e2; exact h2
        · exact fst_min (n := n) (by omega)
def fsN (p : Nat → Bool) (n : Nat) : Int32 := if fst p n < n then nI (fst p n) else (-9)
theorem fsN_hit {p : Nat → Bool} {i n : Nat} (h0 : ¬ fst p i < i) (h : p i = true) (hi : i < n) : fsN p n = nI i := by
  unfold fsN
  rw [fst_hit h0 h hi, if_pos hi]
theorem fsN_no {p : Nat → Bool} {n : Nat} (h : ¬ fst p n < n) : fsN p n = (-9) := if_neg h
theorem less1_d {f d : Nat} (hf : f ≤ 100) (hd : d < 100) : less1 f = nI d ↔ f = d + 1 := by
  by_cases e : f = 0
  · subst e
    exact ⟨fun h => absurd h.symm (nI_ne9 (by omega)), fun h => absurd h (by omega)⟩
  · rw [show less1 f = nI (f - 1) from if_neg e, nI_eq (by omega) (by omega)]; omega
theorem less1_9 {f : Nat} (hf : f ≤ 100) : less1 f = (-9) ↔ f = 0 := ⟨fun h => less1_eq h (by omega), fun h => by rw [h]; rfl⟩
/-- how far (and 1) each is, behind k rounds; 0: not yet known -/
def fl (M : Nat) (nb : Nat → Nat → Nat) (g : Nat) : Nat → Nat → Nat
  | 0, q => if q = g then 1 else 0
  | k + 1, q => if fl M nb g k q ≠ 0 then fl M nb g k q else if fst (fun m => fl M nb g k (nb q m) == k + 1) M < M then k + 2 else 0
section FL
variable {M g : Nat} {nb : Nat → Nat → Nat}
theorem fl_le : ∀ (k q : Nat), fl M nb g k q ≤ k + 1
  | 0, q => by show (if _ then _ else _) ≤ _; split <;> omega
  | k + 1, q => by
    have h := fl_le k q
    by_cases h1 : fl M nb g k q ≠ 0
    · rw [show fl M nb g (k + 1) q = fl M nb g k q from if_pos h1]; omega
    · by_cases h2 : fst (fun m => fl M nb g k (nb q m) == k + 1) M < M
      · rw [show fl M nb g (k + 1) q = k + 2 from (if_neg h1).trans (if_pos h2)]; omega
      · rw [show fl M nb g (k + 1) q = 0 from (if_neg h1).trans (if_neg h2)]; omega
theorem fl_keep {k q : Nat} (h : fl M nb g k q ≠ 0) : fl M nb g (k + 1) q = fl M nb g k q := if_pos h
theorem fl_new {k q : Nat} (h : fl M nb g k q = 0) (h2 : fst (fun m => fl M nb g k (nb q m) == k + 1) M < M) : fl M nb g (k + 1) q = k + 2 := by
  show (if _ then _ else if _ then _ else _) = _
  rw [if_neg (by omega), if_pos h2]
theorem fl_not {k q : Nat} (h : fl M nb g k q = 0) (h2 : ¬ fst (fun m => fl M nb g k (nb q m) == k + 1) M < M) : fl M nb g (k + 1) q = 0 := by
  show (if _ then _ else if _ then _ else _) = _
  rw [if_neg (by omega), if_neg h2]
theorem fl_lab {k q : Nat} : fl M nb g (k + 1) q = k + 1 ↔ fl M nb g k q = k + 1 := by
  have h1 := fl_le (M := M) (nb := nb) (g := g) k q
  by_cases e : fl M nb g k q = 0
  · by_cases e2 : fst (fun m => fl M nb g k (nb q m) == k + 1) M < M
    · rw [fl_new e e2]; omega
    · rw [fl_not e e2]; omega
  · rw [fl_keep e]
/-- one that is known, and is not the goal, has a move to one that is nearer -/
theorem fl_prev : ∀ {k q j : Nat}, fl M nb g k q = j + 2 → ∃ m, m < M ∧ fl M nb g k (nb q m) = j + 1
  | 0, q, j, h => by
    have h2 := fl_le (M := M) (nb := nb) (g := g) 0 q
    omega
  | k + 1, q, j, h => by
    by_cases e : fl M nb g k q = 0
    · by_cases e2 : fst (fun m => fl M nb g k (nb q m) == k + 1) M < M
      · rw [fl_new e e2] at h
        have hj : j = k := by omega
        subst hj
        have h3 := fst_p e2
        exact ⟨_, e2, fl_lab.mpr (by simpa using h3)⟩
      · rw [fl_not e e2] at h; omega
    · rw [fl_keep e] at h
      obtain ⟨m, h1, h2⟩ := fl_prev h
      exact ⟨m, h1, by rw [fl_keep (by omega)]; exact h2⟩
theorem cnt_mono {p q : Nat → Bool} : ∀ {n : Nat}, (∀ j, j < n → p j = true → q j = true) → cnt p n ≤ cnt q n
  | 0, _ => Nat.le_refl 0
  | n + 1, h => by
    have h1 := cnt_mono (n := n) (fun j hj => h j (by omega))
    by_cases e : p n = true
    · rw [cnt_yes e, cnt_yes (h n (by omega) e)]; omega
    · rw [cnt_no e]
      by_cases e2 : q n = true
      · rw [cnt_yes e2]; omega
      · rw [cnt_no e2]; exact h1
theorem cnt_same {p q : Nat → Bool} : ∀ {n : Nat}, (∀ j, j < n → p j = true → q j = true) → cnt q n ≤ cnt p n → ∀ j, j < n → q j = true → p j = true
  | 0, _, _, j, hj, _ => absurd hj (Nat.not_lt_zero j)
  | n + 1, h, hc, j, hj, hq => by
    have h1 := cnt_mono (n := n) (fun j hj => h j (by omega))
    by_cases e : p n = true
    · by_cases ej : j = n
      · subst ej; exact e
      · rw [cnt_yes e, cnt_yes (h n (by omega) e)] at hc
        exact cnt_same (n := n) (fun j hj => h j (by omega)) (by omega) j (by omega) hq
    · by_cases e2 : q n = true
      · rw [cnt_no e, cnt_yes e2] at hc; omega
      · rw [cnt_no e, cnt_no e2] at hc
        by_cases ej : j = n
        · subst ej; exact absurd hq e2
        · exact cnt_same (n := n) (fun j hj => h j (by omega)) hc j (by omega) hq
theorem cnt_one {p : Nat → Bool} {g : Nat} (h : p g = true) : ∀ {n : Nat}, g < n → 1 ≤ cnt p n
  | 0, h2 => absurd h2 (Nat.not_lt_zero g)
  | n + 1, h2 => by
    by_cases e : g = n
    · subst e; rw [cnt_yes h]; omega
    · have h3 := cnt_one h (show g < n by omega)
      show 1 ≤ cnt p n + (if _ then 1 else 0)
      omega
theorem fl_stop {P k : Nat} (hnb : ∀ q, q < P → ∀ m, m < M → nb q m < P) (h : ∀ q, q < P → fl M nb g (k + 1) q = fl M nb g k q) : ∀ d q, q < P → fl M nb g (k + d) q = fl M nb g k q
  | 0, q, _ => rfl
  | d + 1, q, hq => by
    have ih := fl_stop hnb h d
    by_cases e : fl M nb g (k + d) q = 0
    · have e3 : ¬ fst (fun m => fl M nb g (k + d) (nb q m) == (k + d) + 1) M < M := by
        intro e2
        have h3 := fst_p e2
        have h4 : fl M nb g (k + d) (nb q (fst (fun m => fl M nb g (k + d) (nb q m) == (k + d) + 1) M)) = (k + d) + 1 := by simpa using h3
        have hx := hnb q hq _ e2
        have h5 := ih _ hx
        have h6 := fl_le (M := M) (nb := nb) (g := g) k (nb q (fst (fun m => fl M nb g (k + d) (nb q m) == (k + d) + 1) M))
        cases d with
        | zero =>
          have h7 := fl_new (M := M) (nb := nb) (g := g) (k := k) (q := q) e e2
          have h8 := h q hq
          rw [h7] at h8
          have h9 := fl_le (M := M) (nb := nb) (g := g) k q
          omega
        | succ d => omega
      show fl M nb g ((k + d) + 1) q = _
      rw [fl_not e e3, ← ih q hq, e]
    · show fl M nb g ((k + d) + 1) q = _
      rw [fl_keep e]; exact ih q hq
theorem fl_grow {P : Nat} (hg : g < P) (hnb : ∀ q, q < P → ∀ m, m < M → nb q m < P) : ∀ k, k + 1 ≤ cnt (fun q => fl M nb g k q != 0) P ∨ ∀ d q, q < P → fl M nb g (k + d) q = fl M nb g k q
  | 0 => Or.inl (cnt_one (g := g) (by simp [fl]) hg)
  | k + 1 => by
    rcases fl_grow hg hnb k with h | h
    · have hm : ∀ j, j < P → (fl M nb g k j != 0) = true → (fl M nb g (k + 1) j != 0) = true := by
        intro j _ hj
        have hj2 : fl M nb g k j ≠ 0 := by simpa using hj
        rw [fl_keep hj2]; exact hj
      by_cases hc : cnt (fun q => fl M nb g (k + 1) q != 0) P ≤ cnt (fun q => fl M nb g k q != 0) P
      · have hs := cnt_same hm hc
        have h2 : ∀ q, q < P → fl M nb g (k + 1) q = fl M nb g k q := by
          intro q hq
          by_cases e : fl M nb g k q = 0
          · by_cases e2 : fl M nb g (k + 1) q = 0
            · rw [e, e2]
            · have := hs q hq (by simpa using e2)
              exact absurd e (by simpa using this)
          · exact fl_keep e
        refine Or.inr (fun d q hq => ?_)
        rw [show k + 1 + d = k + (d + 1) by omega, fl_stop hnb h2 (d + 1) q hq, h2 q hq]
      · exact Or.inl (by omega)
    · refine Or.inr (fun d q hq => ?_)
      rw [show k + 1 + d = k + (d + 1) by omega, h (d + 1) q hq, h 1 q hq]
/-- no more rounds than there are others are wanted -/
theorem fl_all {P : Nat} (hg : g < P) (hP : P ≤ 6) (hnb : ∀ q, q < P → ∀ m, m < M → nb q m < P) {q : Nat} (hq : q < P) : fl M nb g 6 q = fl M nb g (P - 1) q := by
  rcases fl_grow hg hnb (P - 1) with h | h
  · have hc : ∀ j, j < P → (fun q => fl M nb g (P - 1) q != 0) j = true := by
      have ht : cnt (fun _ => true) P = P := by
        clear hg hP hnb hq h
        induction P with
        | zero => rfl
        | succ n ih => rw [cnt_yes rfl, ih]
      exact fun j hj => cnt_same (p := fun q => fl M nb g (P - 1) q != 0) (q := fun _ => true) (fun _ _ _ => rfl) (by rw [ht]; omega) j hj rfl
    have hs : ∀ d, fl M nb g (P - 1 + d) q = fl M nb g (P - 1) q := by
      intro d
      induction d with
      | zero => rfl
      | succ d ih =>
        have h0 : fl M nb g (P - 1) q ≠ 0 := by simpa using hc q hq
        show fl M nb g ((P - 1 + d) + 1) q = _
        rw [fl_keep (by rw [ih]; exact h0), ih]
    rw [show 6 = P - 1 + (7 - P) by omega, hs]
  · rw [show 6 = P - 1 + (7 - P) by omega, h _ q hq]
/-- in the midst of a round -/
def mix (M : Nat) (nb : Nat → Nat → Nat) (g k a : Nat) : Nat → Nat := fun q => if q < a then fl M nb g (k + 1) q else fl M nb g k q
theorem mix_le (k a q : Nat) : mix M nb g k a q ≤ k + 2 := by
  have h1 := fl_le (M := M) (nb := nb) (g := g) k q
  have h2 := fl_le (M := M) (nb := nb) (g := g) (k + 1) q
  show (if _ then _ else _) ≤ _
  split <;> omega
theorem mix_lab {k a q : Nat} : mix M nb g k a q = k + 1 ↔ fl M nb g k q = k + 1 := by
  show (if _ then _ else _) = _ ↔ _
  split
  · exact fl_lab
  · exact Iff.rfl
theorem mix_p (k a : Nat) (f : Nat → Nat) : (fun m => mix M nb g k a (f m) == k + 1) = (fun m => fl M nb g k (f m) == k + 1) := by
  funext m
  have h := mix_lab (M := M) (nb := nb) (g := g) (k := k) (a := a) (q := f m)
  by_cases e : fl M nb g k (f m) = k + 1
  · rw [e, h.mpr e]
  · have e2 : ¬ mix M nb g k a (f m) = k + 1 := fun q => e (h.mp q)
    rw [show (mix M nb g k a (f m) == k + 1) = false by simpa using e2, show (fl M nb g k (f m) == k + 1) = false by simpa using e]
theorem mix_at (k a : Nat) : mix M nb g k a a = fl M nb g k a := if_neg (Nat.lt_irrefl a)
theorem mix_0 (k q : Nat) : mix M nb g k 0 q = fl M nb g k q := if_neg (Nat.not_lt_zero q)
theorem mix_P {k a q : Nat} (h : q < a) : mix M nb g k a q = fl M nb g (k + 1) q := if_pos h
theorem mix_s {k a q : Nat} (h : q ≠ a) : mix M nb g k (a + 1) q = mix M nb g k a q := by
  show (if _ then _ else _) = (if _ then _ else _)
  by_cases e : q < a
  · rw [if_pos e, if_pos (by omega)]
  · rw [if_neg e, if_neg (by omega)]
theorem mix_sa (k a : Nat) : mix M nb g k (a + 1) a = fl M nb g (k + 1) a := if_pos (Nat.lt_succ_self a)
/-- the first move to one that is nearer -/
def mv (M : Nat) (nb : Nat → Nat → Nat) (g q : Nat) : Nat := fst (fun m => fl M nb g 6 (nb q m) == fl M nb g 6 q - 1) M
def ps (M : Nat) (nb : Nat → Nat → Nat) (g a : Nat) : Nat → Nat
  | 0 => a
  | k + 1 => nb (ps M nb g a k) (mv M nb g (ps M nb g a k))
theorem mv_lt {q : Nat} (h : 2 ≤ fl M nb g 6 q) : mv M nb g q < M := by
  obtain ⟨m, h1, h2⟩ := fl_prev (M := M) (nb := nb) (g := g) (k := 6) (q := q) (j := fl M nb g 6 q - 2) (by omega)
  exact fst_ex (i := m) (by simp; omega) h1
theorem mv_nb {q : Nat} (h : 2 ≤ fl M nb g 6 q) : fl M nb g 6 (nb q (mv M nb g q)) = fl M nb g 6 q - 1 := by
  have h1 : (fl M nb g 6 (nb q (mv M nb g q)) == fl M nb g 6 q - 1) = true := fst_p (p := fun m => fl M nb g 6 (nb q m) == fl M nb g 6 q - 1) (mv_lt h)
  exact beq_iff_eq.mp h1
theorem ps_fl {a : Nat} : ∀ {k : Nat}, k + 1 ≤ fl M nb g 6 a → fl M nb g 6 (ps M nb g a k) = fl M nb g 6 a - k
  | 0, _ => rfl
  | k + 1, h => by
    have ih := ps_fl (a := a) (k := k) (by omega)
    show fl M nb g 6 (nb _ (mv M nb g _)) = _
    rw [mv_nb (by rw [ih]; omega), ih]; omega
theorem ps_P {P a : Nat} (hnb : ∀ q, q < P → ∀ m, m < M → nb q m < P) (ha : a < P) : ∀ {k : Nat}, k + 1 ≤ fl M nb g 6 a → ps M nb g a k < P
  | 0, _ => ha
  | k + 1, h => hnb _ (ps_P hnb ha (by omega)) _ (mv_lt (by rw [ps_fl (by omega)]; omega))
theorem fsN_mv {q d : Nat} (h : 2 ≤ fl M nb g 6 q) (hd : d + 1 = fl M nb g 6 q - 1) : fsN (fun m => fl M nb g 6 (nb q m) == d + 1) M = nI (mv M nb g q) := by
  rw [hd]
  exact if_pos (mv_lt h)
end FL
def nbL (a : SA) (q t : Nat) : Nat := if adf (a.2 0 q) (a.2 0 t) ≤ a.1 2 then t else q
def nbT (a : SA) (kd q h : Nat) : Nat := carry a q kd h
theorem nbL_lt {a : SA} : ∀ q, q < a.1 3 → ∀ m, m < a.1 3 → nbL a q m < a.1 3 := by
  intro q hq m hm
  unfold nbL
  split <;> assumption
theorem nbT_lt {a : SA} {kd : Nat} : ∀ q, q < a.1 3 → ∀ m, m < 10 → nbT a kd q m < a.1 3 := fun q hq m _ => carry_lt hq
theorem nbL_mv {a : SA} {g q : Nat} (h : 2 ≤ fl (a.1 3) (nbL a) g 6 q) : nbL a q (mv (a.1 3) (nbL a) g q) = mv (a.1 3) (nbL a) g q := by
  have h1 := mv_nb h
  by_cases e : adf (a.2 0 q) (a.2 0 (mv (a.1 3) (nbL a) g q)) ≤ a.1 2
  · exact if_pos e
  · have e2 : nbL a q (mv (a.1 3) (nbL a) g q) = q := if_neg e
    rw [e2] at h1; omega
def FLp (a : SA) (g : Nat) : Nat → Nat := fl (a.1 3) (nbL a) g 6
def FTd (a : SA) (kd g : Nat) : Nat → Nat := fl 10 (nbT a kd) g 6
def R_leaps (A : AB) (a b k : Int32) : Int32 := if pB A.1 a then if pB A.1 b then if inB k (-1) 5 then if k.toInt < 0 then less1 (FLp A.1 (tn b) (tn a)) else if tn k + 1 ≤ FLp A.1 (tn b) (tn a) then nI (ps (A.1.1 3) (nbL A.1) (tn b) (tn a) (tn k)) else (-9) else (-2) else (-1) else (-1)
def R_elect (A : AB) (m q k : Int32) : Int32 := if mB A.1 m then if pB A.1 q then if inB k (-1) 4 then if k.toInt < 0 then less1 (FTd A.1 (A.1.2 2 (tn m)) (tn q) (A.1.2 3 (tn m))) else if tn k + 1 < FTd A.1 (A.1.2 2 (tn m)) (tn q) (A.1.2 3 (tn m)) then nI (mv 10 (nbT A.1 (A.1.2 2 (tn m))) (tn q) (ps 10 (nbT A.1 (A.1.2 2 (tn m))) (tn q) (A.1.2 3 (tn m)) (tn k))) else (-9) else (-2) else (-1) else (-1)
