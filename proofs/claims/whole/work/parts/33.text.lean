/-! a told shore: what its codes say, and where the first fault is -/
def dgt (c : Nat → Int32) (n p lo hi : Nat) : Nat := if p < n ∧ ((48 + lo : Nat) : Int) ≤ (c p).toInt ∧ (c p).toInt ≤ ((48 + hi : Nat) : Int) then tn (c p) - 48 + 1 else 0
def sgn (c : Nat → Int32) (n p cd : Nat) : Bool := decide (p < n ∧ c p = nI cd)
def knd (c : Nat → Int32) (n p : Nat) : Nat := if p < n then (if c p = nI 115 then 1 else if c p = nI 99 then 2 else if c p = nI 108 then 3 else 0) else 0
def adv (d : Nat) : Nat := if d = 0 then 0 else 1
def hdF (c : Nat → Int32) (n : Nat) : Nat := if sgn c n 0 114 = false then 1 else if dgt c n 1 1 3 = 0 then 2 else if dgt c n 2 0 9 = 0 then 3 else if dgt c n 3 0 9 = 0 then 4 else 0
def badP (c : Nat → Int32) (n j : Nat) : Bool := !(sgn c n (4 + 3 * j) 44 && dgt c n (4 + 3 * j + 1) 1 9 != 0 && dgt c n (4 + 3 * j + 1 + 1) 1 9 != 0)
def nP (c : Nat → Int32) (n : Nat) : Nat := fst (badP c n) 6
def plG (c : Nat → Int32) (n j : Nat) : Nat := if j < 6 ∧ sgn c n (4 + 3 * j) 44 = true then (if dgt c n (4 + 3 * j + 1) 1 9 = 0 then 4 + 3 * j + 1 + 1 else 4 + 3 * j + 1 + 1 + 1) else if j < 2 then 4 + 3 * j + 1 else 0
def plF (c : Nat → Int32) (n : Nat) : Nat := plG c n (nP c n)
def badM (c : Nat → Int32) (n P j : Nat) : Bool := !(sgn c n (4 + 3 * P + 4 * j) 59 && knd c n (4 + 3 * P + 4 * j + 1) != 0 && dgt c n (4 + 3 * P + 4 * j + 1 + 1) 0 (P - 1) != 0 && dgt c n (4 + 3 * P + 4 * j + 1 + 1 + 1) 0 9 != 0)
def nM (c : Nat → Int32) (n P : Nat) : Nat := fst (badM c n P) 6
def mbG (c : Nat → Int32) (n P j : Nat) : Nat := if j < 6 ∧ sgn c n (4 + 3 * P + 4 * j) 59 = true then (if knd c n (4 + 3 * P + 4 * j + 1) = 0 then 4 + 3 * P + 4 * j + 1 + 1 else if dgt c n (4 + 3 * P + 4 * j + 1 + 1) 0 (P - 1) = 0 then 4 + 3 * P + 4 * j + 1 + 1 + 1 else 4 + 3 * P + 4 * j + 1 + 1 + 1 + 1) else if j = 0 then 4 + 3 * P + 1 else 0
def mbF (c : Nat → Int32) (n P : Nat) : Nat := mbG c n P (nM c n P)
def rdF (c : Nat → Int32) (n : Nat) : Nat := if hdF c n ≠ 0 then hdF c n else if plF c n ≠ 0 then plF c n else if mbF c n (nP c n) ≠ 0 then mbF c n (nP c n) else if 4 + 3 * nP c n + 4 * nM c n (nP c n) < n then 4 + 3 * nP c n + 4 * nM c n (nP c n) + 1 else 0
def rdS (c : Nat → Int32) (n : Nat) : SA := (fun u => if u = 0 then dgt c n 1 1 3 - 1 else if u = 1 then dgt c n 2 0 9 - 1 else if u = 2 then dgt c n 3 0 9 - 1 else if u = 3 then nP c n else nM c n (nP c n), fun t j => if t = 0 then dgt c n (4 + 3 * j + 1) 1 9 - 1 else if t = 1 then dgt c n (4 + 3 * j + 1 + 1) 1 9 - 1 else if t = 2 then knd c n (4 + 3 * nP c n + 4 * j + 1) - 1 else if t = 3 then dgt c n (4 + 3 * nP c n + 4 * j + 1 + 1) 0 (nP c n - 1) - 1 else dgt c n (4 + 3 * nP c n + 4 * j + 1 + 1 + 1) 0 9 - 1)
def ceF (A : AB) (k i : Int32) : Nat → Int32 := fun p => A.2.1.2.2 (tn k) (tn i + p)
def R_shore (A : AB) (k l i n : Int32) : Int32 := if hB k then if lB l then if rowF A.2.1 (tn k) l i n = 0 then if rdF (ceF A k i) (tn n) = 0 then nI ((rdS (ceF A k i) (tn n)).1 4) else (-100) - nI (rdF (ceF A k i) (tn n) - 1) else (-10) - nI (rowF A.2.1 (tn k) l i n) else (-2) else (-1)
def N_shore (A : AB) (k l i n : Int32) : AB := if hB k then if lB l then if rowF A.2.1 (tn k) l i n = 0 then if rdF (ceF A k i) (tn n) = 0 then AsR (AsS (AsF A 0) (rdS (ceF A k i) (tn n))) (0, A.2.2.1.2) else AsF A 0 else AsF A (nI (rowF A.2.1 (tn k) l i n)) else AsF A 0 else AsF A 0
section TXT
variable {c : Nat → Int32} {n p : Nat}
theorem dgt_in {lo hi : Nat} (h : dgt c n p lo hi ≠ 0) : p < n ∧ lo ≤ dgt c n p lo hi - 1 ∧ dgt c n p lo hi - 1 ≤ hi := by
  unfold dgt at h ⊢
  by_cases e : p < n ∧ ((48 + lo : Nat) : Int) ≤ (c p).toInt ∧ (c p).toInt ≤ ((48 + hi : Nat) : Int)
  · rw [if_pos e] at h ⊢
    have h2 : tn (c p) = (c p).toInt.toNat := rfl
    omega
  · rw [if_neg e] at h; exact absurd rfl h
theorem dgt_le {lo hi : Nat} : dgt c n p lo hi ≤ hi + 1 := by
  by_cases e : dgt c n p lo hi = 0
  · omega
  · have := dgt_in e
    omega
theorem knd_in (h : knd c n p ≠ 0) : p < n ∧ knd c n p ≤ 3 := by
  unfold knd at h ⊢
  by_cases e : p < n
  · rw [if_pos e] at h ⊢
    refine ⟨e, ?_⟩
    split
    · omega
    · split
      · omega
      · split <;> omega
  · rw [if_neg e] at h; exact absurd rfl h
theorem knd_le : knd c n p ≤ 3 := by
  by_cases e : knd c n p = 0
  · omega
  · exact (knd_in e).2
theorem sgn_t {cd : Nat} (h : sgn c n p cd = true) : p < n ∧ c p = nI cd := of_decide_eq_true h
theorem sgn_f {cd : Nat} (h : sgn c n p cd = false) : ¬ (p < n ∧ c p = nI cd) := of_decide_eq_false h
theorem adv0 : adv 0 = 0 := rfl
theorem adv1 {d : Nat} (h : d ≠ 0) : adv d = 1 := if_neg h
theorem adv_z {d : Nat} (h : d = 0) : adv d = 0 := if_pos h
theorem nP_hit {j : Nat} (h0 : ¬ fst (badP c n) j < j) (hj : j < 6) (hb : badP c n j = true) : nP c n = j := fst_hit h0 hb hj
theorem nP_6 {j : Nat} (h0 : ¬ fst (badP c n) j < j) (hj : j = 6) : nP c n = j := by
  subst hj
  have := fst_le (badP c n) 6
  show fst (badP c n) 6 = 6
  omega
theorem nM_hit {P j : Nat} (h0 : ¬ fst (badM c n P) j < j) (hj : j < 6) (hb : badM c n P j = true) : nM c n P = j := fst_hit h0 hb hj
theorem nM_6 {P j : Nat} (h0 : ¬ fst (badM c n P) j < j) (hj : j = 6) : nM c n P = j := by
  subst hj
  have := fst_le (badM c n P) 6
  show fst (badM c n P) 6 = 6
  omega
theorem badP_s {j : Nat} (h : sgn c n (4 + 3 * j) 44 = false) : badP c n j = true := by unfold badP; rw [h]; rfl
theorem badP_1 {j : Nat} (h : dgt c n (4 + 3 * j + 1) 1 9 = 0) : badP c n j = true := by unfold badP; rw [h]; cases sgn c n (4 + 3 * j) 44 <;> rfl
theorem badP_2 {j : Nat} (h : dgt c n (4 + 3 * j + 1 + 1) 1 9 = 0) : badP c n j = true := by unfold badP; rw [h]; simp
theorem badP_n {j : Nat} (h1 : sgn c n (4 + 3 * j) 44 = true) (h2 : dgt c n (4 + 3 * j + 1) 1 9 ≠ 0) (h3 : dgt c n (4 + 3 * j + 1 + 1) 1 9 ≠ 0) : ¬ badP c n j = true := by unfold badP; rw [h1]; simp [h2, h3]
theorem badM_s {P j : Nat} (h : sgn c n (4 + 3 * P + 4 * j) 59 = false) : badM c n P j = true := by unfold badM; rw [h]; rfl
theorem badM_1 {P j : Nat} (h : knd c n (4 + 3 * P + 4 * j + 1) = 0) : badM c n P j = true := by unfold badM; rw [h]; simp
theorem badM_2 {P j : Nat} (h : dgt c n (4 + 3 * P + 4 * j + 1 + 1) 0 (P - 1) = 0) : badM c n P j = true := by unfold badM; rw [h]; simp
theorem badM_3 {P j : Nat} (h : dgt c n (4 + 3 * P + 4 * j + 1 + 1 + 1) 0 9 = 0) : badM c n P j = true := by unfold badM; rw [h]; simp
theorem badM_n {P j : Nat} (h1 : sgn c n (4 + 3 * P + 4 * j) 59 = true) (h2 : knd c n (4 + 3 * P + 4 * j + 1) ≠ 0) (h3 : dgt c n (4 + 3 * P + 4 * j + 1 + 1) 0 (P - 1) ≠ 0) (h4 : dgt c n (4 + 3 * P + 4 * j + 1 + 1 + 1) 0 9 ≠ 0) : ¬ badM c n P j = true := by unfold badM; rw [h1]; simp [h2, h3, h4]
theorem plG_s {j : Nat} (h : j < 6 → sgn c n (4 + 3 * j) 44 = false) : plG c n j = (if j < 2 then 4 + 3 * j + 1 else 0) := by
  unfold plG
  rw [if_neg (fun q => by rw [h q.1] at q; exact absurd q.2 (by decide))]
theorem plG_1 {j : Nat} (hj : j < 6) (h : sgn c n (4 + 3 * j) 44 = true) (h1 : dgt c n (4 + 3 * j + 1) 1 9 = 0) : plG c n j = 4 + 3 * j + 1 + 1 := by
  unfold plG; rw [if_pos ⟨hj, h⟩, if_pos h1]
theorem plG_2 {j : Nat} (hj : j < 6) (h : sgn c n (4 + 3 * j) 44 = true) (h1 : dgt c n (4 + 3 * j + 1) 1 9 ≠ 0) : plG c n j = 4 + 3 * j + 1 + 1 + 1 := by
  unfold plG; rw [if_pos ⟨hj, h⟩, if_neg h1]
theorem mbG_s {P j : Nat} (h : j < 6 → sgn c n (4 + 3 * P + 4 * j) 59 = false) : mbG c n P j = (if j = 0 then 4 + 3 * P + 1 else 0) := by
  unfold mbG
  rw [if_neg (fun q => by rw [h q.1] at q; exact absurd q.2 (by decide))]
theorem mbG_1 {P j : Nat} (hj : j < 6) (h : sgn c n (4 + 3 * P + 4 * j) 59 = true) (h1 : knd c n (4 + 3 * P + 4 * j + 1) = 0) : mbG c n P j = 4 + 3 * P + 4 * j + 1 + 1 := by
  unfold mbG; rw [if_pos ⟨hj, h⟩, if_pos h1]
theorem mbG_2 {P j : Nat} (hj : j < 6) (h : sgn c n (4 + 3 * P + 4 * j) 59 = true) (h1 : knd c n (4 + 3 * P + 4 * j + 1) ≠ 0) (h2 : dgt c n (4 + 3 * P + 4 * j + 1 + 1) 0 (P - 1) = 0) : mbG c n P j = 4 + 3 * P + 4 * j + 1 + 1 + 1 := by
  unfold mbG; rw [if_pos ⟨hj, h⟩, if_neg h1, if_pos h2]
theorem mbG_3 {P j : Nat} (hj : j < 6) (h : sgn c n (4 + 3 * P + 4 * j) 59 = true) (h1 : knd c n (4 + 3 * P + 4 * j + 1) ≠ 0) (h2 : dgt c n (4 + 3 * P + 4 * j + 1 + 1) 0 (P - 1) ≠ 0) : mbG c n P j = 4 + 3 * P + 4 * j + 1 + 1 + 1 + 1 := by
  unfold mbG; rw [if_pos ⟨hj, h⟩, if_neg h1, if_neg h2]
theorem goodP {j : Nat} (h : ¬ badP c n j = true) : sgn c n (4 + 3 * j) 44 = true ∧ dgt c n (4 + 3 * j + 1) 1 9 ≠ 0 ∧ dgt c n (4 + 3 * j + 1 + 1) 1 9 ≠ 0 := by
  unfold badP at h
  simp at h
  exact ⟨h.1.1, h.1.2, h.2⟩
theorem goodM {P j : Nat} (h : ¬ badM c n P j = true) : sgn c n (4 + 3 * P + 4 * j) 59 = true ∧ knd c n (4 + 3 * P + 4 * j + 1) ≠ 0 ∧ dgt c n (4 + 3 * P + 4 * j + 1 + 1) 0 (P - 1) ≠ 0 ∧ dgt c n (4 + 3 * P + 4 * j + 1 + 1 + 1) 0 9 ≠ 0 := by
  unfold badM at h
  simp at h
  exact ⟨h.1.1.1, h.1.1.2, h.1.2, h.2⟩
theorem rdS_ok (h : rdF c n = 0) : SOK (rdS c n) ∧ 2 ≤ nP c n := by
  have h1 : hdF c n = 0 := by
    by_cases e : hdF c n = 0
    · exact e
    · unfold rdF at h; rw [if_pos e] at h; exact absurd h e
  have h2 : plF c n = 0 := by
    by_cases e : plF c n = 0
    · exact e
    · unfold rdF at h; rw [if_neg (by omega), if_pos e] at h; exact absurd h e
  have hd1 : dgt c n 1 1 3 ≠ 0 := by
    intro e
    unfold hdF at h1
    by_cases s : sgn c n 0 114 = false
    · rw [if_pos s] at h1; omega
    · rw [if_neg s, if_pos e] at h1; omega
  have hP2 : 2 ≤ nP c n := by
    by_cases e : nP c n < 2
    · exfalso
      unfold plF plG at h2
      by_cases s : nP c n < 6 ∧ sgn c n (4 + 3 * nP c n) 44 = true
      · rw [if_pos s] at h2
        by_cases s2 : dgt c n (4 + 3 * nP c n + 1) 1 9 = 0
        · rw [if_pos s2] at h2; omega
        · rw [if_neg s2] at h2; omega
      · rw [if_neg s, if_pos e] at h2; omega
    · omega
  have i1 := dgt_in hd1
  have i2 : dgt c n 2 0 9 ≤ 10 := dgt_le
  have i3 : dgt c n 3 0 9 ≤ 10 := dgt_le
  have hP : nP c n ≤ 6 := fst_le _ 6
  have hM : nM c n (nP c n) ≤ 6 := fst_le _ 6
  refine ⟨⟨?_, ?_, ?_, hP, hM, fun j hj => ⟨?_, ?_⟩, fun j hj => ⟨?_, ?_, ?_⟩, fun _ => i1.2.1⟩, hP2⟩
  · exact i1.2.2
  · show dgt c n 2 0 9 - 1 ≤ 9; omega
  · show dgt c n 3 0 9 - 1 ≤ 9; omega
  · show dgt c n (4 + 3 * j + 1) 1 9 - 1 ≤ 9; have : dgt c n (4 + 3 * j + 1) 1 9 ≤ 10 := dgt_le; omega
  · show dgt c n (4 + 3 * j + 1 + 1) 1 9 - 1 ≤ 9; have : dgt c n (4 + 3 * j + 1 + 1) 1 9 ≤ 10 := dgt_le; omega
  · show knd c n (4 + 3 * nP c n + 4 * j + 1) - 1 ≤ 2; have : knd c n (4 + 3 * nP c n + 4 * j + 1) ≤ 3 := knd_le; omega
  · show dgt c n (4 + 3 * nP c n + 4 * j + 1 + 1) 0 (nP c n - 1) - 1 < nP c n
    have : dgt c n (4 + 3 * nP c n + 4 * j + 1 + 1) 0 (nP c n - 1) ≤ nP c n - 1 + 1 := dgt_le
    omega
  · show dgt c n (4 + 3 * nP c n + 4 * j + 1 + 1 + 1) 0 9 - 1 ≤ 9; have : dgt c n (4 + 3 * nP c n + 4 * j + 1 + 1 + 1) 0 9 ≤ 10 := dgt_le; omega
end TXT
