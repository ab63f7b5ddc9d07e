/-! the mathematics of a shore: a.1: 0 stream, 1 mild, 2 leap, 3 pools, 4 members; a.2: 0 heights, 1 depths, 2 kinds, 3 seats, 4 views -/
abbrev SA : Type := (Nat → Nat) × (Nat → Nat → Nat)
def bits (p : Nat → Bool) : Nat → Nat
  | 0 => 0
  | n + 1 => bits p n + (if p n then 2 ^ n else 0)
def cnt (p : Nat → Bool) : Nat → Nat
  | 0 => 0
  | n + 1 => cnt p n + (if p n then 1 else 0)
def pop (n : Nat) : Nat := n % 2 + n / 2 % 2 + n / 4 % 2 + n / 8 % 2 + n / 16 % 2 + n / 32 % 2
def itn (f : Nat → Nat) : Nat → Nat → Nat
  | 0, q => q
  | n + 1, q => itn f n (f q)
def sit (a : SA) (q : Nat) : Nat := bits (fun m => a.2 3 m == q) (a.1 4)
def stp (s k : Nat) : Nat := if k = 0 then s else if k = 1 then s - 1 else s / 2
def wet (a : SA) (h : Nat) : Nat := bits (fun q => decide (a.2 0 q < h)) (a.1 3)
def rng (P q s : Nat) : Nat := if q + s < P then q + s else q + s - P
def nw (P : Nat) (g : Nat → Nat) (h q : Nat) : Nat → Nat → Nat
  | 0, _ => q
  | n + 1, s => if g (rng P q s) < h then rng P q s else nw P g h q n (s + 1)
def nxt (P : Nat) (g : Nat → Nat) (h q : Nat) : Nat := nw P g h q (P - 1) 1
def carryP (P : Nat) (g : Nat → Nat) (n q h : Nat) : Nat := if g q < h then itn (nxt P g h) n q else q
def carry (a : SA) (q k h : Nat) : Nat := carryP (a.1 3) (a.2 0) (stp (a.1 0) k) q h
def adf (u v : Nat) : Nat := (u - v) + (v - u)
def fri (a : SA) (v : Nat) : Nat := bits (fun m => decide (adf (a.2 4 m) v ≤ a.1 1)) (a.1 4)
def won (a : SA) (f : Nat) : Nat := bits (fun q => decide (pop (sit a q) < 2 * pop (sit a q &&& f))) (a.1 3)
def satIn (a : SA) : Nat := cnt (fun q => decide (sit a q ≠ 0)) (a.1 3)
def isLaw (a : SA) (f : Nat) : Bool := decide (satIn a < 2 * pop (won a f))
def full (a : SA) : Nat → Nat
  | 0 => 0
  | n + 1 => if pop (sit a (full a n)) < pop (sit a n) then n else full a n
def dsum (a : SA) (q : Nat) : Nat → Nat
  | 0 => 0
  | n + 1 => dsum a q n + (if a.2 3 n = q then a.2 4 n else 0)
def dri (a : SA) (q b : Nat) : Nat := (b + dsum a q (a.1 4)) / (pop (sit a q) + 1)
def SOK (a : SA) : Prop := a.1 0 ≤ 3 ∧ a.1 1 ≤ 9 ∧ a.1 2 ≤ 9 ∧ a.1 3 ≤ 6 ∧ a.1 4 ≤ 6 ∧ (∀ j, j < a.1 3 → a.2 0 j ≤ 9 ∧ a.2 1 j ≤ 9) ∧ (∀ j, j < a.1 4 → a.2 2 j ≤ 2 ∧ a.2 3 j < a.1 3 ∧ a.2 4 j ≤ 9) ∧ (0 < a.1 3 → 1 ≤ a.1 0)
def ShR (x : St) (w : Nat) (a : SA) : Prop := x.1 (21 + 5 * w) = nI (a.1 0) ∧ x.1 (22 + 5 * w) = nI (a.1 1) ∧ x.1 (23 + 5 * w) = nI (a.1 2) ∧ x.1 (24 + 5 * w) = nI (a.1 3) ∧ x.1 (25 + 5 * w) = nI (a.1 4) ∧ (∀ j, j < a.1 3 → x.2.1 (26 + 6 * w) j = nI (a.2 0 j) ∧ x.2.1 (27 + 6 * w) j = nI (a.2 1 j)) ∧ (∀ j, j < a.1 4 → x.2.1 (28 + 6 * w) j = nI (a.2 2 j) ∧ x.2.1 (29 + 6 * w) j = nI (a.2 3 j) ∧ x.2.1 (30 + 6 * w) j = nI (a.2 4 j))
def MdR (x : Mt) (a : SA) : Prop := x.1 7 = nI (a.1 0) ∧ x.1 8 = nI (a.1 1) ∧ x.1 9 = nI (a.1 2) ∧ x.1 5 = nI (a.1 3) ∧ x.1 6 = nI (a.1 4) ∧ (∀ j, j < a.1 3 → x.2 10 j = nI (a.2 0 j) ∧ x.2 11 j = nI (a.2 1 j)) ∧ (∀ j, j < a.1 4 → x.2 12 j = nI (a.2 2 j) ∧ x.2 13 j = nI (a.2 3 j) ∧ x.2 14 j = nI (a.2 4 j))
-- numbers
theorem fa_and (a b : Nat) : nI a &&& nI b = nI (a &&& b) := by
  apply Int32.toBitVec_inj.1
  show BitVec.ofNat 32 a &&& BitVec.ofNat 32 b = BitVec.ofNat 32 (a &&& b)
  apply BitVec.eq_of_getLsbD_eq
  intro i hi
  simp [hi]
theorem fa_or (a b : Nat) : nI a ||| nI b = nI (a ||| b) := by
  apply Int32.toBitVec_inj.1
  show BitVec.ofNat 32 a ||| BitVec.ofNat 32 b = BitVec.ofNat 32 (a ||| b)
  apply BitVec.eq_of_getLsbD_eq
  intro i hi
  simp [hi]
theorem fb_bmod {z : Int} (h1 : -2147483648 ≤ z) (h2 : z < 2147483648) : z.bmod (2 ^ 32) = z := by
  rw [Int.bmod_eq_of_le] <;> omega
theorem fb_addI {x y : Int32} (h1 : -2147483648 ≤ x.toInt + y.toInt) (h2 : x.toInt + y.toInt < 2147483648) : (x + y).toInt = x.toInt + y.toInt := by rw [Int32.toInt_add]; exact fb_bmod h1 h2
theorem fb_subI {x y : Int32} (h1 : -2147483648 ≤ x.toInt - y.toInt) (h2 : x.toInt - y.toInt < 2147483648) : (x - y).toInt = x.toInt - y.toInt := by rw [Int32.toInt_sub]; exact fb_bmod h1 h2
theorem fb_asI (x : Int32) : Int32.ofInt x.toInt = x := Int32.ofInt_toInt x
theorem sh1 : ∀ m, m < 31 → nI 1 <<< (nI m &&& 31) = nI (2 ^ m) := by decide +kernel
theorem or_bit {s n : Nat} (h : s < 2 ^ n) : nI s ||| nI (2 ^ n) = nI (s + 2 ^ n) := by
  have e := Nat.two_pow_add_eq_or_of_lt h 1
  rw [Nat.mul_one] at e
  rw [fa_or, Nat.or_comm, ← e, Nat.add_comm]
theorem bits_lt (p : Nat → Bool) : ∀ n, bits p n < 2 ^ n
  | 0 => (Nat.zero_lt_one : 0 < 1)
  | n + 1 => by
    have := bits_lt p n
    have e : 2 ^ (n + 1) = 2 ^ n + 2 ^ n := by rw [Nat.pow_succ]; omega
    unfold bits
    split <;> omega
theorem bits64 (p : Nat → Bool) {n : Nat} (h : n ≤ 6) : bits p n < 64 := Nat.lt_of_lt_of_le (bits_lt p n) (Nat.pow_le_pow_right (by decide) h)
theorem bits_or {p : Nat → Bool} {n : Nat} (h : p n = true) : nI (bits p n) ||| nI (2 ^ n) = nI (bits p (n + 1)) := by
  rw [or_bit (bits_lt p n)]
  unfold bits
  rw [if_pos h]
  cases n <;> rfl
theorem bits_noV {p : Nat → Bool} {n : Nat} (h : ¬ p n = true) : Value.int (nI (bits p (n + 1))) = Value.int (nI (bits p n)) := by
  have : bits p (n + 1) = bits p n := by
    show bits p n + (if p n then 2 ^ n else 0) = bits p n
    rw [if_neg h]; rfl
  rw [this]
theorem cnt_le (p : Nat → Bool) : ∀ n, cnt p n ≤ n
  | 0 => Nat.le_refl 0
  | n + 1 => by
    have := cnt_le p n
    unfold cnt
    split <;> omega
theorem cnt_yes {p : Nat → Bool} {n : Nat} (h : p n = true) : cnt p (n + 1) = cnt p n + 1 := by show cnt p n + (if p n then 1 else 0) = _; rw [if_pos h]
theorem cnt_no {p : Nat → Bool} {n : Nat} (h : ¬ p n = true) : cnt p (n + 1) = cnt p n := by show cnt p n + (if p n then 1 else 0) = _; rw [if_neg h]; rfl
theorem nI_dec {n : Nat} (h : 0 < n) : nI n + Int32.ofInt (-1) = nI (n - 1) := by
  obtain ⟨k, rfl⟩ : ∃ k, n = k + 1 := ⟨n - 1, by omega⟩
  exact pk_m1 k
theorem tab_out {v : Int32} {lo hi : Nat} (h : ∀ z : Nat, lo ≤ z → z ≤ hi → ¬ v = nI z) (hh : hi < 2147483648 := by decide) : v.toInt < (lo : Int) ∨ (hi : Int) < v.toInt := by
  by_cases h1 : v.toInt < (lo : Int)
  · exact Or.inl h1
  · by_cases h2 : (hi : Int) < v.toInt
    · exact Or.inr h2
    · exfalso
      refine h v.toInt.toNat (by omega) (by omega) ?_
      apply Int32.toInt_inj.mp
      rw [nI_toInt (by omega)]
      omega
theorem pop_le (n : Nat) : pop n ≤ 6 := by unfold pop; omega
theorem sit64 {a : SA} (ok : SOK a) (q : Nat) : sit a q < 64 := bits64 _ ok.2.2.2.2.1
theorem won64 {a : SA} (ok : SOK a) (f : Nat) : won a f < 64 := bits64 _ ok.2.2.2.1
theorem fri64 {a : SA} (ok : SOK a) (f : Nat) : fri a f < 64 := bits64 _ ok.2.2.2.2.1
theorem and64 {s f : Nat} (h : s < 64) : s &&& f < 64 := Nat.lt_of_le_of_lt Nat.and_le_left h
theorem notand : ∀ s, s < 64 → ∀ f, f < 64 → nI s &&& (nI f ^^^ (-1)) = nI (s &&& (63 - f)) := by decide +kernel
theorem pop_split : ∀ s, s < 64 → ∀ f, f < 64 → pop (s &&& f) + pop (s &&& (63 - f)) = pop s := by decide +kernel
theorem rng_lt {P q s : Nat} (h : q + s < P) : rng P q s = q + s := if_pos h
theorem rng_ge {P q s : Nat} (h : P ≤ q + s) : rng P q s = q + s - P := if_neg (by omega)
theorem nw_hit {P : Nat} {g : Nat → Nat} {h q n s : Nat} (h2 : g (rng P q s) < h) : nw P g h q (n + 1) s = rng P q s := if_pos h2
theorem nw_miss {P : Nat} {g : Nat → Nat} {h q n s : Nat} (h2 : ¬ g (rng P q s) < h) : nw P g h q (n + 1) s = nw P g h q n (s + 1) := if_neg h2
theorem nw_lt {P : Nat} {g : Nat → Nat} {h q : Nat} (hq : q < P) : ∀ n s, s + n ≤ P → nw P g h q n s < P
  | 0, _, _ => hq
  | n + 1, s, hs => by
    unfold nw
    split
    · unfold rng; split <;> omega
    · exact nw_lt hq n (s + 1) (by omega)
theorem nxt_lt {P : Nat} {g : Nat → Nat} {h q : Nat} (hq : q < P) : nxt P g h q < P := nw_lt hq (P - 1) 1 (by omega)
theorem itn_lt {f : Nat → Nat} {P : Nat} (hf : ∀ q, q < P → f q < P) : ∀ n q, q < P → itn f n q < P
  | 0, _, h => h
  | n + 1, q, h => itn_lt hf n (f q) (hf q h)
theorem carry_lt {a : SA} {q k h : Nat} (hq : q < a.1 3) : carry a q k h < a.1 3 := by
  unfold carry carryP
  split
  · exact itn_lt (fun q hq => nxt_lt hq) _ _ hq
  · exact hq
theorem stp_le {s k : Nat} (h : s ≤ 3) : stp s k ≤ 3 := by unfold stp; split; omega; split <;> omega
theorem b2i_01 (b : Bool) : b2i b = 0 ∨ b2i b = 1 := by cases b; exact Or.inl rfl; exact Or.inr rfl
theorem lt_i {a b : Int32} : a < b ↔ a.toInt < b.toInt := Int32.lt_iff_toInt_lt
theorem le_i {a b : Int32} : a ≤ b ↔ a.toInt ≤ b.toInt := Int32.le_iff_toInt_le
section JN
variable {l0 : Launch} {Z : EC} {Γ : CTX St} {x : St} {cc : ByteArray} {own : String} {rm : Room} {n pc : Nat} {L : List (Option Value)} {st : List Value}
theorem G4n_stream {w : Nat} (h : w < 2) {a : SA} (hr : ShR x w a) (C : CJ l0 Z (wC Z) Γ cc own rm n) {idx : Nat} (hl : Cond.fieldLink own idx "TideSeats$Shore" "stream" "I" ∈ wsL_law) (d : decode cc pc = .ok (.getfield idx, 3)) (k1 : J Γ x (pc + 3) L (.int (nI (a.1 0)) :: st)) : J Γ x pc L (.ref (Z.2.1 (25 + 6 * w)) :: st) := G4_stream h C hl d (by rw [hr.1]; exact k1)
theorem G4n_mild {w : Nat} (h : w < 2) {a : SA} (hr : ShR x w a) (C : CJ l0 Z (wC Z) Γ cc own rm n) {idx : Nat} (hl : Cond.fieldLink own idx "TideSeats$Shore" "mild" "I" ∈ wsL_law) (d : decode cc pc = .ok (.getfield idx, 3)) (k1 : J Γ x (pc + 3) L (.int (nI (a.1 1)) :: st)) : J Γ x pc L (.ref (Z.2.1 (25 + 6 * w)) :: st) := G4_mild h C hl d (by rw [hr.2.1]; exact k1)
theorem G4n_reach {w : Nat} (h : w < 2) {a : SA} (hr : ShR x w a) (C : CJ l0 Z (wC Z) Γ cc own rm n) {idx : Nat} (hl : Cond.fieldLink own idx "TideSeats$Shore" "reach" "I" ∈ wsL_law) (d : decode cc pc = .ok (.getfield idx, 3)) (k1 : J Γ x (pc + 3) L (.int (nI (a.1 2)) :: st)) : J Γ x pc L (.ref (Z.2.1 (25 + 6 * w)) :: st) := G4_reach h C hl d (by rw [hr.2.2.1]; exact k1)
theorem G4n_pools {w : Nat} (h : w < 2) {a : SA} (hr : ShR x w a) (C : CJ l0 Z (wC Z) Γ cc own rm n) {idx : Nat} (hl : Cond.fieldLink own idx "TideSeats$Shore" "pools" "I" ∈ wsL_law) (d : decode cc pc = .ok (.getfield idx, 3)) (k1 : J Γ x (pc + 3) L (.int (nI (a.1 3)) :: st)) : J Γ x pc L (.ref (Z.2.1 (25 + 6 * w)) :: st) := G4_pools h C hl d (by rw [hr.2.2.2.1]; exact k1)
theorem G4n_members {w : Nat} (h : w < 2) {a : SA} (hr : ShR x w a) (C : CJ l0 Z (wC Z) Γ cc own rm n) {idx : Nat} (hl : Cond.fieldLink own idx "TideSeats$Shore" "members" "I" ∈ wsL_law) (d : decode cc pc = .ok (.getfield idx, 3)) (k1 : J Γ x (pc + 3) L (.int (nI (a.1 4)) :: st)) : J Γ x pc L (.ref (Z.2.1 (25 + 6 * w)) :: st) := G4_members h C hl d (by rw [hr.2.2.2.2.1]; exact k1)
theorem L4n_heights {w : Nat} (h : w < 2) {a : SA} (hr : ShR x w a) (ok : SOK a) (C : CJ l0 Z (wC Z) Γ cc own rm n) {t : Nat} (ht : t < a.1 3) (d : decode cc pc = .ok (.iaload, 1)) (k1 : J Γ x (pc + 1) L (.int (nI (a.2 0 t)) :: st)) : J Γ x pc L (.int (nI t) :: .ref (Z.2.1 (26 + 6 * w)) :: st) := L_heights h C (Nat.lt_of_lt_of_le ht ok.2.2.2.1) ((hr.2.2.2.2.2.1 t ht).1) d k1
theorem L4n_depths {w : Nat} (h : w < 2) {a : SA} (hr : ShR x w a) (ok : SOK a) (C : CJ l0 Z (wC Z) Γ cc own rm n) {t : Nat} (ht : t < a.1 3) (d : decode cc pc = .ok (.iaload, 1)) (k1 : J Γ x (pc + 1) L (.int (nI (a.2 1 t)) :: st)) : J Γ x pc L (.int (nI t) :: .ref (Z.2.1 (27 + 6 * w)) :: st) := L_depths h C (Nat.lt_of_lt_of_le ht ok.2.2.2.1) ((hr.2.2.2.2.2.1 t ht).2) d k1
theorem L4n_kindOf {w : Nat} (h : w < 2) {a : SA} (hr : ShR x w a) (ok : SOK a) (C : CJ l0 Z (wC Z) Γ cc own rm n) {t : Nat} (ht : t < a.1 4) (d : decode cc pc = .ok (.iaload, 1)) (k1 : J Γ x (pc + 1) L (.int (nI (a.2 2 t)) :: st)) : J Γ x pc L (.int (nI t) :: .ref (Z.2.1 (28 + 6 * w)) :: st) := L_kindOf h C (Nat.lt_of_lt_of_le ht ok.2.2.2.2.1) ((hr.2.2.2.2.2.2 t ht).1) d k1
theorem L4n_seats {w : Nat} (h : w < 2) {a : SA} (hr : ShR x w a) (ok : SOK a) (C : CJ l0 Z (wC Z) Γ cc own rm n) {t : Nat} (ht : t < a.1 4) (d : decode cc pc = .ok (.iaload, 1)) (k1 : J Γ x (pc + 1) L (.int (nI (a.2 3 t)) :: st)) : J Γ x pc L (.int (nI t) :: .ref (Z.2.1 (29 + 6 * w)) :: st) := L_seats h C (Nat.lt_of_lt_of_le ht ok.2.2.2.2.1) ((hr.2.2.2.2.2.2 t ht).2.1) d k1
theorem L4n_views {w : Nat} (h : w < 2) {a : SA} (hr : ShR x w a) (ok : SOK a) (C : CJ l0 Z (wC Z) Γ cc own rm n) {t : Nat} (ht : t < a.1 4) (d : decode cc pc = .ok (.iaload, 1)) (k1 : J Γ x (pc + 1) L (.int (nI (a.2 4 t)) :: st)) : J Γ x pc L (.int (nI t) :: .ref (Z.2.1 (30 + 6 * w)) :: st) := L_views h C (Nat.lt_of_lt_of_le ht ok.2.2.2.2.1) ((hr.2.2.2.2.2.2 t ht).2.2) d k1
end JN
section JNM
variable {l0 : Launch} {Z : EC} {Γ : CTX Mt} {x : Mt} {cc : ByteArray} {own : String} {rm : Room} {n pc : Nat} {L : List (Option Value)} {st : List Value}
theorem G6n_stream {a : SA} (hr : MdR x a) (C : CJ l0 Z (wM Z) Γ cc own rm n) {idx : Nat} (hl : Cond.fieldLink own idx "TideSeatsModel" "stream" "I" ∈ wsL_law) (d : decode cc pc = .ok (.getfield idx, 3)) (k1 : J Γ x (pc + 3) L (.int (nI (a.1 0)) :: st)) : J Γ x pc L (.ref (Z.2.1 0) :: st) := G6_stream C hl d (by rw [hr.1]; exact k1)
theorem G6n_mild {a : SA} (hr : MdR x a) (C : CJ l0 Z (wM Z) Γ cc own rm n) {idx : Nat} (hl : Cond.fieldLink own idx "TideSeatsModel" "mild" "I" ∈ wsL_law) (d : decode cc pc = .ok (.getfield idx, 3)) (k1 : J Γ x (pc + 3) L (.int (nI (a.1 1)) :: st)) : J Γ x pc L (.ref (Z.2.1 0) :: st) := G6_mild C hl d (by rw [hr.2.1]; exact k1)
theorem G6n_leapNow {a : SA} (hr : MdR x a) (C : CJ l0 Z (wM Z) Γ cc own rm n) {idx : Nat} (hl : Cond.fieldLink own idx "TideSeatsModel" "leapNow" "I" ∈ wsL_law) (d : decode cc pc = .ok (.getfield idx, 3)) (k1 : J Γ x (pc + 3) L (.int (nI (a.1 2)) :: st)) : J Γ x pc L (.ref (Z.2.1 0) :: st) := G6_leapNow C hl d (by rw [hr.2.2.1]; exact k1)
theorem G6n_pools {a : SA} (hr : MdR x a) (C : CJ l0 Z (wM Z) Γ cc own rm n) {idx : Nat} (hl : Cond.fieldLink own idx "TideSeatsModel" "pools" "I" ∈ wsL_law) (d : decode cc pc = .ok (.getfield idx, 3)) (k1 : J Γ x (pc + 3) L (.int (nI (a.1 3)) :: st)) : J Γ x pc L (.ref (Z.2.1 0) :: st) := G6_pools C hl d (by rw [hr.2.2.2.1]; exact k1)
theorem G6n_members {a : SA} (hr : MdR x a) (C : CJ l0 Z (wM Z) Γ cc own rm n) {idx : Nat} (hl : Cond.fieldLink own idx "TideSeatsModel" "members" "I" ∈ wsL_law) (d : decode cc pc = .ok (.getfield idx, 3)) (k1 : J Γ x (pc + 3) L (.int (nI (a.1 4)) :: st)) : J Γ x pc L (.ref (Z.2.1 0) :: st) := G6_members C hl d (by rw [hr.2.2.2.2.1]; exact k1)
theorem LMn_height {a : SA} (hr : MdR x a) (ok : SOK a) (C : CJ l0 Z (wM Z) Γ cc own rm n) {t : Nat} (ht : t < a.1 3) (d : decode cc pc = .ok (.iaload, 1)) (k1 : J Γ x (pc + 1) L (.int (nI (a.2 0 t)) :: st)) : J Γ x pc L (.int (nI t) :: .ref (Z.2.1 10) :: st) := LM_height C (Nat.lt_of_lt_of_le ht ok.2.2.2.1) ((hr.2.2.2.2.2.1 t ht).1) d k1
theorem LMn_depth {a : SA} (hr : MdR x a) (ok : SOK a) (C : CJ l0 Z (wM Z) Γ cc own rm n) {t : Nat} (ht : t < a.1 3) (d : decode cc pc = .ok (.iaload, 1)) (k1 : J Γ x (pc + 1) L (.int (nI (a.2 1 t)) :: st)) : J Γ x pc L (.int (nI t) :: .ref (Z.2.1 11) :: st) := LM_depth C (Nat.lt_of_lt_of_le ht ok.2.2.2.1) ((hr.2.2.2.2.2.1 t ht).2) d k1
theorem LMn_kind {a : SA} (hr : MdR x a) (ok : SOK a) (C : CJ l0 Z (wM Z) Γ cc own rm n) {t : Nat} (ht : t < a.1 4) (d : decode cc pc = .ok (.iaload, 1)) (k1 : J Γ x (pc + 1) L (.int (nI (a.2 2 t)) :: st)) : J Γ x pc L (.int (nI t) :: .ref (Z.2.1 12) :: st) := LM_kind C (Nat.lt_of_lt_of_le ht ok.2.2.2.2.1) ((hr.2.2.2.2.2.2 t ht).1) d k1
theorem LMn_poolOf {a : SA} (hr : MdR x a) (ok : SOK a) (C : CJ l0 Z (wM Z) Γ cc own rm n) {t : Nat} (ht : t < a.1 4) (d : decode cc pc = .ok (.iaload, 1)) (k1 : J Γ x (pc + 1) L (.int (nI (a.2 3 t)) :: st)) : J Γ x pc L (.int (nI t) :: .ref (Z.2.1 13) :: st) := LM_poolOf C (Nat.lt_of_lt_of_le ht ok.2.2.2.2.1) ((hr.2.2.2.2.2.2 t ht).2.1) d k1
theorem LMn_view {a : SA} (hr : MdR x a) (ok : SOK a) (C : CJ l0 Z (wM Z) Γ cc own rm n) {t : Nat} (ht : t < a.1 4) (d : decode cc pc = .ok (.iaload, 1)) (k1 : J Γ x (pc + 1) L (.int (nI (a.2 4 t)) :: st)) : J Γ x pc L (.int (nI t) :: .ref (Z.2.1 14) :: st) := LM_view C (Nat.lt_of_lt_of_le ht ok.2.2.2.2.1) ((hr.2.2.2.2.2.2 t ht).2.2) d k1
end JNM
