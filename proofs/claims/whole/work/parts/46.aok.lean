/-! what each call leaves is a state that can be: the invariant is kept -/
theorem tn_le {v : Int32} {n : Nat} (h : v.toInt ≤ (n : Int)) : tn v ≤ n := by unfold tn; omega
theorem tn_lt {v : Int32} {n : Nat} (h0 : 0 ≤ v.toInt) (h : v.toInt < (n : Int)) : tn v < n := by unfold tn; omega
theorem tn_ge {v : Int32} {n : Nat} (h : (n : Int) ≤ v.toInt) : n ≤ tn v := by unfold tn; omega
theorem ok_raise {A : AB} (h : AOK A) (q v : Int32) : AOK (N_raise A q v) := by
  unfold N_raise
  split
  · split
    · rename_i h1 h2
      exact aok_A h ⟨fun _ => tn_le h2.2, fun e => absurd e (by decide), fun e => absurd e (by decide), fun e => absurd e (by decide), fun e => absurd e (by decide)⟩
    · exact h
  · exact h
theorem ok_sway {A : AB} (h : AOK A) (m v : Int32) : AOK (N_sway A m v) := by
  unfold N_sway
  split
  · split
    · rename_i h1 h2
      exact aok_A h ⟨fun e => absurd e (by decide), fun e => absurd e (by decide), fun e => absurd e (by decide), fun e => absurd e (by decide), fun _ => tn_le h2.2⟩
    · exact h
  · exact h
theorem ok_seat {A : AB} (h : AOK A) (m q : Int32) : AOK (N_seat A m q) := by
  unfold N_seat
  split
  · split
    · rename_i h1 h2
      exact aok_A h ⟨fun e => absurd e (by decide), fun e => absurd e (by decide), fun e => absurd e (by decide), fun _ => tn_lt h2.1 h2.2, fun e => absurd e (by decide)⟩
    · exact h
  · exact h
theorem ok_flow {A : AB} (h : AOK A) (v : Int32) : AOK (N_flow A v) := by
  unfold N_flow
  split
  · split
    · exact h
    · rename_i h1 h2
      exact aok_I h (by decide) ⟨fun _ => ⟨tn_ge h1.1, tn_le h1.2⟩, fun e => absurd e (by decide), fun e => absurd e (by decide)⟩
  · exact h
theorem ok_calm {A : AB} (h : AOK A) (v : Int32) : AOK (N_calm A v) := by
  unfold N_calm
  split
  · split
    · exact h
    · rename_i h1 h2
      exact aok_I h (by decide) ⟨fun e => absurd e (by decide), fun _ => tn_le h1.2, fun e => absurd e (by decide)⟩
  · exact h
theorem ok_leap {A : AB} (h : AOK A) (v : Int32) : AOK (N_leap A v) := by
  unfold N_leap
  split
  · split
    · exact h
    · rename_i h1 h2
      exact aok_I h (by decide) ⟨fun e => absurd e (by decide), fun e => absurd e (by decide), fun _ => tn_le h1.2⟩
  · exact h
theorem ok_tide {A : AB} (h : AOK A) (v : Int32) : AOK (N_tide A v) := by
  unfold N_tide
  split
  · split
    · exact h
    · exact ⟨tided_ok h.1 _, h.2⟩
  · exact h
theorem ok_back {A : AB} (h : AOK A) (k : Int32) : AOK (N_back A k) := by
  unfold N_back
  split
  · obtain ⟨h1, h2, h3, h4⟩ := h
    refine ⟨h1, h2, ?_, fun j hj => h4 j ?_⟩
    · exact Nat.le_trans (Nat.sub_le _ _) h3
    · exact Nat.lt_of_lt_of_le hj (Nat.sub_le _ _)
  · exact h
theorem ok_reading {A : AB} (h : AOK A) (m hh q : Int32) : AOK (N_reading A m hh q) := by
  unfold N_reading
  split
  · split
    · split
      · split
        · exact h
        · rename_i c1 c2 c3 c4
          obtain ⟨h1, h2, h3, h4⟩ := h
          refine ⟨h1, h2, ?_, fun j hj => ?_⟩
          · show A.2.2.1.1 + 1 ≤ 8; omega
          · have hj2 : j < A.2.2.1.1 + 1 := hj
            show up2 (up2 (up2 A.2.2.1.2 0 A.2.2.1.1 (tn m)) 1 A.2.2.1.1 (tn hh)) 2 A.2.2.1.1 (tn q) 0 j < A.1.1 4 ∧ up2 (up2 (up2 A.2.2.1.2 0 A.2.2.1.1 (tn m)) 1 A.2.2.1.1 (tn hh)) 2 A.2.2.1.1 (tn q) 1 j ≤ 9 ∧ up2 (up2 (up2 A.2.2.1.2 0 A.2.2.1.1 (tn m)) 1 A.2.2.1.1 (tn hh)) 2 A.2.2.1.1 (tn q) 2 j < A.1.1 3
            by_cases e : j = A.2.2.1.1
            · subst e
              simp only [up2]
              simp only [and_self, ↓reduceIte, and_true]
              exact ⟨tn_lt c1.1 c1.2, tn_le c2.2, tn_lt c3.1 c3.2⟩
            · simp only [up2, e, and_false, ↓reduceIte]
              exact h4 j (by omega)
      · exact h
    · exact h
  · exact h
theorem ok_tell {A : AB} (h : AOK A) (m : Int32) : AOK (N_tell A m) := by
  unfold N_tell
  repeat' split
  all_goals exact h
theorem ok_name {A : AB} (h : AOK A) (m : Int32) : AOK (N_name A m) := by
  unfold N_name
  repeat' split
  all_goals exact h
theorem ok_as {A : AB} (h : AOK A) (m k : Int32) : AOK (N_as A m k) := by
  unfold N_as
  repeat' split
  all_goals exact h
theorem ok_cell {A : AB} (h : AOK A) (k i l : Int32) : AOK (N_cell A k i l) := by
  unfold N_cell
  repeat' split
  all_goals exact h
theorem ok_copy {A : AB} (h : AOK A) (k i o j n : Int32) : AOK (N_copy A k i o j n) := by
  unfold N_copy
  repeat' split
  all_goals exact h
theorem ok_put {A : AB} (h : AOK A) (k i v : Int32) : AOK (N_put A k i v) := by
  unfold N_put
  repeat' split
  all_goals exact h
theorem ok_year {A : AB} (h : AOK A) (k l i n w : Int32) : AOK (N_year A k l i n w) := by
  unfold N_year
  repeat' split
  all_goals exact h
theorem ok_drift {A : AB} (h : AOK A) (k l i n v w : Int32) : AOK (N_drift A k l i n v w) := by
  unfold N_drift
  repeat' split
  all_goals exact h
theorem ok_lose {A : AB} (h : AOK A) (k : Int32) : AOK (N_lose A k) := by
  unfold N_lose
  split
  · obtain ⟨h1, h2, h3, h4⟩ := h
    refine ⟨h1, fun u hu => ⟨?_, (h2 u hu).2⟩, h3, h4⟩
    show (if _ then _ else _) ≤ 3
    split
    · omega
    · exact (h2 u hu).1
  · exact h
theorem ok_sheet {A : AB} (h : AOK A) (k l n : Int32) : AOK (N_sheet A k l n) := by
  unfold N_sheet
  split
  · split
    · split
      · exact h
      · split
        · exact h
        · rename_i c1 c2 c3 c4
          obtain ⟨h1, h2, h3, h4⟩ := h
          refine ⟨h1, fun u hu => ⟨?_, ?_⟩, h3, h4⟩
          · show (if _ then _ else _) ≤ 3
            split
            · exact Nat.succ_le_succ (tn_le (n := 2) c2.2)
            · exact (h2 u hu).1
          · show (if _ then _ else _) ≤ 60
            split
            · exact tn_le (n := 60) (by have : ¬ (60 : Int) < n.toInt := c3
                                        omega)
            · exact (h2 u hu).2
    · exact h
  · exact h
theorem ok_shore {A : AB} (h : AOK A) (k l i n : Int32) : AOK (N_shore A k l i n) := by
  unfold N_shore
  split
  · split
    · split
      · split
        · rename_i c1 c2 c3 c4
          exact ⟨(rdS_ok c4).1, h.2.1, Nat.zero_le 8, fun j hj => absurd hj (Nat.not_lt_zero j)⟩
        · exact h
      · exact h
    · exact h
  · exact h
/-! the first state -/
def A00 : AB := ((fun _ => 0, fun _ _ => 0), (fun _ => 0, fun _ => 0, fun _ _ => 0), (0, fun _ _ => 0), 0, 0)
def x00 : St := (fun _ => 0, fun _ _ => 0, 0, 1, none)
def srt0 : Nat → Int32 := upd (upd (upd (upd (fun _ => 0) 0 (-9)) 1 (-9)) 2 (-9)) 3 (-9)
def y00 : Mt := (fun _ => 0, fun a => if a = 2 then srt0 else fun _ => 0)
theorem A00_ok : AOK A00 := ⟨⟨Nat.zero_le _, Nat.zero_le _, Nat.zero_le _, Nat.zero_le _, Nat.zero_le _, fun j hj => absurd hj (Nat.not_lt_zero j), fun j hj => absurd hj (Nat.not_lt_zero j), fun h => absurd h (Nat.not_lt_zero 0)⟩, fun k _ => ⟨Nat.zero_le _, Nat.zero_le _⟩, Nat.zero_le _, fun j hj => absurd hj (Nat.not_lt_zero j)⟩
theorem x00_abs : AbsC x00 A00 := ⟨⟨by decide, by decide, by decide, rfl, rfl, rfl, rfl, rfl, fun j hj => absurd hj (Nat.not_lt_zero j), fun j hj => absurd hj (Nat.not_lt_zero j)⟩, fun k _ => ⟨rfl, fun h => absurd rfl h⟩, ⟨rfl, fun j hj => absurd hj (Nat.not_lt_zero j)⟩, rfl, rfl⟩
theorem srt0_at (k : Nat) (h : k < 4) : srt0 k = -9 := by
  rcases (show k = 0 ∨ k = 1 ∨ k = 2 ∨ k = 3 by omega) with rfl | rfl | rfl | rfl <;> decide
theorem y00_abs : AbsM y00 A00 := ⟨⟨rfl, rfl, rfl, rfl, rfl, fun j hj => absurd hj (Nat.not_lt_zero j), fun j hj => absurd hj (Nat.not_lt_zero j)⟩, fun k hk => ⟨by
  show srt0 k = (if (0 : Nat) = 0 then (-9) else _)
  rw [if_pos rfl]
  exact srt0_at k hk, fun h => absurd rfl h⟩, ⟨rfl, fun j hj => absurd hj (Nat.not_lt_zero j)⟩, rfl, rfl⟩
