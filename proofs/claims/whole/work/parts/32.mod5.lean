def F28 (x y : Mt) : Prop := y.1 = x.1 ∧ ∀ t, t ≠ 28 → y.2 t = x.2 t
theorem F28.rf {x : Mt} : F28 x x := ⟨rfl, fun _ _ => rfl⟩
theorem F28.tr {x y z : Mt} (h : F28 x y) (g : F28 y z) : F28 x z := ⟨g.1.trans h.1, fun t ht => (g.2 t ht).trans (h.2 t ht)⟩
theorem F28.arr {x : Mt} {f : Nat → Int32} : F28 x (mA x 28 f) := ⟨rfl, fun t ht => mA_ne ht⟩
theorem F28.md {x y : Mt} {a : SA} (h : F28 x y) (hr : MdR x a) : MdR y a := hr.frI h.1 h.2
theorem F28.abs {x y : Mt} {A : AB} (hf : F28 x y) (h : AbsM x A) : AbsM y A := by
  obtain ⟨m1, m2, m3, m4, m5⟩ := h
  exact ⟨hf.md m1, m2.same (fun t h1 h2 => hf.2 t (by omega)), m3.same (congrFun hf.1 29) (fun t h1 h2 => hf.2 t (by omega)), (congrFun hf.1 _).trans m4, (congrFun hf.1 _).trans m5⟩
def FM (x : Mt) (P : Nat) (ff : Nat → Nat) : Prop := ∀ q, q < P → x.2 28 q = less1 (ff q)
def mid (M : Nat) (nb : Nat → Nat → Nat) (g k p b : Nat) : Nat → Nat := fun q => if q = p then (if fl M nb g k p ≠ 0 then fl M nb g k p else if fst (fun m => fl M nb g k (nb p m) == k + 1) b < b then k + 2 else 0) else mix M nb g k p q
section MID
variable {M g P k p b : Nat} {nb : Nat → Nat → Nat} {y : Mt}
theorem mid_at : mid M nb g k p b p = (if fl M nb g k p ≠ 0 then fl M nb g k p else if fst (fun m => fl M nb g k (nb p m) == k + 1) b < b then k + 2 else 0) := if_pos rfl
theorem mid_ne {q : Nat} (h : q ≠ p) : mid M nb g k p b q = mix M nb g k p q := if_neg h
theorem mid_le (q : Nat) : mid M nb g k p b q ≤ k + 2 := by
  by_cases e : q = p
  · subst e
    rw [mid_at]
    have := fl_le (M := M) (nb := nb) (g := g) k q
    split
    · omega
    · split <;> omega
  · rw [mid_ne e]; exact mix_le k p q
theorem mid_0 (h : mid M nb g k p b p = 0) : fl M nb g k p = 0 ∧ ¬ fst (fun m => fl M nb g k (nb p m) == k + 1) b < b := by
  rw [mid_at] at h
  by_cases e : fl M nb g k p = 0
  · rw [if_neg (by omega)] at h
    by_cases e2 : fst (fun m => fl M nb g k (nb p m) == k + 1) b < b
    · rw [if_pos e2] at h; omega
    · exact ⟨e, e2⟩
  · rw [if_pos e] at h; exact absurd h e
theorem mid_start : mid M nb g k p 0 p = mix M nb g k p p := by
  rw [mid_at, mix_at]
  by_cases e : fl M nb g k p = 0
  · rw [if_neg (by omega), if_neg (Nat.not_lt_zero _), e]
  · rw [if_pos e]
theorem mid_yes (h : mid M nb g k p b p = 0) (h2 : fl M nb g k (nb p b) = k + 1) : mid M nb g k p (b + 1) p = k + 2 := by
  obtain ⟨h3, h4⟩ := mid_0 h
  rw [mid_at, if_neg (by omega), if_pos]
  exact fst_ex (i := b) (by simpa using h2) (by omega)
theorem mid_no (h : mid M nb g k p b p = 0) (h2 : ¬ fl M nb g k (nb p b) = k + 1) : mid M nb g k p (b + 1) p = 0 := by
  obtain ⟨h3, h4⟩ := mid_0 h
  rw [mid_at, if_neg (by omega), if_neg (fst_go h4 (by simpa using h2))]
theorem mid_lab {q : Nat} (h : mid M nb g k p b p = 0) : mid M nb g k p b q = k + 1 ↔ fl M nb g k q = k + 1 := by
  by_cases e : q = p
  · subst e
    rw [h, (mid_0 h).1]
  · rw [mid_ne e]; exact mix_lab
theorem fm_start {i : Nat} {v : Int32} (h : ∀ j, j < i → y.2 28 j = less1 (fl M nb g 0 j)) (hv : v = less1 (fl M nb g 0 i)) : ∀ j, j < i + 1 → (mA y 28 (upd (y.2 28) i v)).2 28 j = less1 (fl M nb g 0 j) := by
  intro j hj
  refine (congrFun mA_eq j).trans ?_
  by_cases e : j = i
  · subst e; exact upd_eq.trans hv
  · exact (upd_ne e).trans (h j (by omega))
theorem fm_round (h : FM y P (fl M nb g k)) : FM y P (mix M nb g k 0) := fun q hq => by rw [mix_0]; exact h q hq
theorem fm_next (h : FM y P (mix M nb g k P)) : FM y P (fl M nb g (k + 1)) := fun q hq => by rw [← mix_P hq]; exact h q hq
theorem fm_in (h : FM y P (mix M nb g k p)) : FM y P (mid M nb g k p 0) := by
  intro q hq
  by_cases e : q = p
  · subst e; rw [mid_start]; exact h q hq
  · rw [mid_ne e]; exact h q hq
theorem fm_outA (h : FM y P (mid M nb g k p b)) (hb : M ≤ b) (hb2 : b ≤ M) : FM y P (mix M nb g k (p + 1)) := by
  intro q hq
  have hbM : b = M := by omega
  subst hbM
  rw [h q hq]
  by_cases e : q = p
  · subst e; rw [mid_at, mix_sa]; rfl
  · rw [mid_ne e, mix_s e]
theorem fm_outB (h : FM y P (mid M nb g k p b)) (h0 : mid M nb g k p b p ≠ 0) (hb : b ≤ M) : FM y P (mix M nb g k (p + 1)) := by
  intro q hq
  rw [h q hq]
  by_cases e : q = p
  · subst e
    rw [mix_sa]
    rw [mid_at] at h0 ⊢
    by_cases e1 : fl M nb g k q = 0
    · rw [if_neg (by omega)] at h0 ⊢
      by_cases e2 : fst (fun m => fl M nb g k (nb q m) == k + 1) b < b
      · rw [if_pos e2, fl_new e1 (fst_ex (fst_p e2) (by omega))]
      · rw [if_neg e2] at h0; exact absurd rfl h0
    · rw [if_pos e1, fl_keep e1]
  · rw [mid_ne e, mix_s e]
theorem fm_set {w : Nat} {v : Int32} (h : FM y P (mid M nb g k p b)) (hw : mid M nb g k p (b + 1) p = w) (hv : v = less1 w) : FM (mA y 28 (upd (y.2 28) p v)) P (mid M nb g k p (b + 1)) := by
  intro q hq
  refine (congrFun mA_eq q).trans ?_
  by_cases e : q = p
  · subst e; rw [hw, ← hv]; exact upd_eq
  · rw [mid_ne e]; exact (upd_ne e).trans ((h q hq).trans (by rw [mid_ne e]))
theorem fst_bd {pp : Nat → Bool} (h : fst pp M < M) (h0 : ¬ fst pp b < b) : b ≤ fst pp M := by
  by_cases e : b ≤ fst pp M
  · exact e
  · exact absurd (fst_ex (fst_p h) (by omega)) h0
theorem fl_goal : ∀ {k q : Nat}, fl M nb g k q = 1 ↔ q = g
  | 0, q => by
    show (if q = g then 1 else 0) = 1 ↔ _
    by_cases e : q = g
    · rw [if_pos e]; exact ⟨fun _ => e, fun _ => rfl⟩
    · rw [if_neg e]; exact ⟨fun h => absurd h (by omega), fun h => absurd h e⟩
  | k + 1, q => by
    have ih := fl_goal (k := k) (q := q)
    by_cases e : fl M nb g k q = 0
    · by_cases e2 : fst (fun m => fl M nb g k (nb q m) == k + 1) M < M
      · rw [fl_new e e2]
        exact ⟨fun h => absurd h (by omega), fun h => absurd (ih.mpr h) (by omega)⟩
      · rw [fl_not e e2]
        exact ⟨fun h => absurd h (by omega), fun h => absurd (ih.mpr h) (by omega)⟩
    · rw [fl_keep e]; exact ih
end MID
theorem nbL_lab {a : SA} {k p b g : Nat} (h0 : fl (a.1 3) (nbL a) g k p = 0) : fl (a.1 3) (nbL a) g k (nbL a p b) = k + 1 ↔ fl (a.1 3) (nbL a) g k b = k + 1 ∧ p ≠ b ∧ adf (a.2 0 p) (a.2 0 b) ≤ a.1 2 := by
  by_cases e : adf (a.2 0 p) (a.2 0 b) ≤ a.1 2
  · rw [show nbL a p b = b from if_pos e]
    exact ⟨fun h => ⟨h, fun q => by subst q; omega, e⟩, fun h => h.1⟩
  · rw [show nbL a p b = p from if_neg e]
    exact ⟨fun h => absurd h (by omega), fun h => absurd h.2.2 e⟩
theorem nbL_lab2 {a : SA} {p b g : Nat} (h2 : 2 ≤ FLp a g p) : FLp a g (nbL a p b) = FLp a g p - 1 ↔ FLp a g b = FLp a g p - 1 ∧ p ≠ b ∧ adf (a.2 0 p) (a.2 0 b) ≤ a.1 2 := by
  by_cases e : adf (a.2 0 p) (a.2 0 b) ≤ a.1 2
  · rw [show nbL a p b = b from if_pos e]
    exact ⟨fun h => ⟨h, fun q => by subst q; omega, e⟩, fun h => h.1⟩
  · rw [show nbL a p b = p from if_neg e]
    exact ⟨fun h => absurd h (by omega), fun h => absurd h.2.2 e⟩
section TD
variable {a : SA} {kd g s : Nat}
def psE (a : SA) (kd g s n : Nat) : Nat := ps 10 (nbT a kd) g s (if n + 1 ≤ FTd a kd g s then n else FTd a kd g s - 1)
def tdE (a : SA) (kd g s n : Nat) : Int32 := if n = 0 then (-9) else if n < FTd a kd g s then nI (mv 10 (nbT a kd) g (ps 10 (nbT a kd) g s (n - 1))) else (-9)
theorem psE_lt {n : Nat} (h0 : FTd a kd g s ≠ 0) (hs : s < a.1 3) : psE a kd g s n < a.1 3 := by
  refine ps_P (P := a.1 3) nbT_lt hs ?_
  show _ + 1 ≤ FTd a kd g s
  split <;> omega
theorem psE_g {n : Nat} (h0 : FTd a kd g s ≠ 0) : psE a kd g s n = g ↔ FTd a kd g s ≤ n + 1 := by
  have h1 : ∀ j, j + 1 ≤ FTd a kd g s → (ps 10 (nbT a kd) g s j = g ↔ FTd a kd g s = j + 1) := by
    intro j hj
    have h2 : FTd a kd g (ps 10 (nbT a kd) g s j) = FTd a kd g s - j := ps_fl hj
    rw [← fl_goal (M := 10) (nb := nbT a kd) (k := 6)]
    show FTd a kd g _ = 1 ↔ _
    rw [h2]; omega
  unfold psE
  split
  · rename_i e; rw [h1 n e]; omega
  · rename_i e; rw [h1 _ (by omega)]; omega
theorem psE_at {n : Nat} (h : n + 1 ≤ FTd a kd g s) : psE a kd g s n = ps 10 (nbT a kd) g s n := by unfold psE; rw [if_pos h]
theorem psE_step {n : Nat} (h : n + 1 < FTd a kd g s) : nbT a kd (psE a kd g s n) (mv 10 (nbT a kd) g (psE a kd g s n)) = psE a kd g s (n + 1) := by
  rw [psE_at (by omega), psE_at (n := n + 1) (by omega)]; rfl
theorem psE_stay {n : Nat} (h : FTd a kd g s ≤ n + 1) (h0 : FTd a kd g s ≠ 0) : psE a kd g s n = psE a kd g s (n + 1) := by
  unfold psE
  by_cases e : n + 1 ≤ FTd a kd g s
  · rw [if_pos e, if_neg (by omega)]; congr 1; omega
  · rw [if_neg e, if_neg (by omega)]
theorem tdE_mv {n : Nat} (h : n + 1 < FTd a kd g s) : nI (mv 10 (nbT a kd) g (psE a kd g s n)) = tdE a kd g s (n + 1) := by
  unfold tdE
  rw [if_neg (by omega), if_pos h, psE_at (by omega)]; rfl
theorem tdE_no {n : Nat} (h : FTd a kd g s ≤ n + 1) : (-9 : Int32) = tdE a kd g s (n + 1) := by
  unfold tdE
  rw [if_neg (by omega), if_neg (by omega)]
theorem psE_fl {n : Nat} (h : n + 1 < FTd a kd g s) : FTd a kd g (psE a kd g s n) = FTd a kd g s - n := by
  rw [psE_at (by omega)]
  have h2 : n + 1 ≤ FTd a kd g s := by omega
  exact ps_fl h2
end TD
theorem nI_neg {k : Int32} (h : -1 ≤ k.toInt) (h2 : ¬ k = (-1)) : 0 ≤ k.toInt := by
  have h3 : k.toInt ≠ -1 := fun e => h2 (Int32.toInt_inj.mp (by rw [e]; decide))
  omega
theorem neg1 {k : Int32} (h : k = (-1)) : k.toInt < 0 := by subst h; decide
theorem lm_b {a : SA} {g s : Nat} {k : Int32} (h1 : 0 ≤ k.toInt) (h : less1 (FLp a g s) = (-9)) : less1 (FLp a g s) = (if k.toInt < 0 then less1 (FLp a g s) else if tn k + 1 ≤ FLp a g s then nI (ps (a.1 3) (nbL a) g s (tn k)) else (-9)) := by
  have h0 : FLp a g s = 0 := (less1_9 (fl_leL _ _ _ _)).mp h
  rw [if_neg (by omega), if_neg (by omega), h]
theorem lm_c {a : SA} {kd g s : Nat} {k : Int32} (h1 : 0 ≤ k.toInt) (h : less1 (FTd a kd g s) = (-9)) : less1 (FTd a kd g s) = (if k.toInt < 0 then less1 (FTd a kd g s) else if tn k + 1 < FTd a kd g s then nI (mv 10 (nbT a kd) g (ps 10 (nbT a kd) g s (tn k))) else (-9)) := by
  have h0 : FTd a kd g s = 0 := (less1_9 (fl_leL _ _ _ _)).mp h
  rw [if_neg (by omega), if_neg (by omega), h]

def rm_X6_isLeap : Room := ({ frames := 0, cells := 0, slots := 0, locals := 0 })
set_option maxRecDepth 20000 in
theorem c_X6_isLeap (l : Launch) (Z : EC) (x : Mt) (a : SA) (hr : MdR x a) (ok : SOK a) (p q : Nat) (hp : p < a.1 3) (hq : q < a.1 3) : MIz l Z (wM Z) yX6_isLeap cX6_isLeap 4 rm_X6_isLeap [.ref (Z.2.1 0), .int (nI p), .int (nI q)] x (fun b x1 => b = decide (p ≠ q ∧ adf (a.2 0 p) (a.2 0 q) ≤ a.1 2) ∧ x = x1) := by
  obtain ⟨ok0, ok1, ok2, ok3, ok4, ok5, ok6, ok7⟩ := id ok
  have gp := ok5 p hp
  have gq := ok5 q hq
  refine MIz_of (own := RX6) (L0 := [some (.ref (Z.2.1 0)), some (.int (nI p)), some (.int (nI q)), none]) (by decide) rfl (Nat.le_of_ble_eq_true rfl) ⟨rfl, rfl, rfl, trivial⟩ ?_
  intro Γ C E
  refine J_aload_n C dX6_isLeap_0 rfl rfl ?_
  refine G6_height C wd_3_21 dX6_isLeap_1 ?_
  refine J_iload_n C dX6_isLeap_4 rfl rfl ?_
  refine LMn_height hr ok C (by omega) dX6_isLeap_5 ?_
  refine J_aload_n C dX6_isLeap_6 rfl rfl ?_
  refine G6_height C wd_3_21 dX6_isLeap_7 ?_
  refine J_iload_n C dX6_isLeap_10 rfl rfl ?_
  refine LMn_height hr ok C (by omega) dX6_isLeap_11 ?_
  refine J_icmp_le_n C (tgt := 31) dX6_isLeap_12 (by decide) (by omega) (by omega) (fun c12 => ?_) (fun c12 => ?_)
  · skip
    refine J_aload_n C dX6_isLeap_31 rfl rfl ?_
    refine G6_height C wd_3_21 dX6_isLeap_32 ?_
    refine J_iload_n C dX6_isLeap_35 rfl rfl ?_
    refine LMn_height hr ok C (by omega) dX6_isLeap_36 ?_
    refine J_aload_n C dX6_isLeap_37 rfl rfl ?_
    refine G6_height C wd_3_21 dX6_isLeap_38 ?_
    refine J_iload_n C dX6_isLeap_41 rfl rfl ?_
    refine LMn_height hr ok C (by omega) dX6_isLeap_42 ?_
    refine J_isub C (v := nI ((a.2 0 q) - (a.2 0 p))) dX6_isLeap_43 (pk_sub (a := a.2 0 q) (b := a.2 0 p) (by omega)) ?_
    refine J_istore_n C (L' := [some (.ref (Z.2.1 0)), some (.int (nI p)), some (.int (nI q)), some (.int (nI ((a.2 0 q) - (a.2 0 p))))]) dX6_isLeap_44 rfl (by decide) rfl rfl ?_
    refine J_iload_n C dX6_isLeap_45 rfl rfl ?_
    refine J_iload_n C dX6_isLeap_46 rfl rfl ?_
    refine J_icmp_eq_n C (tgt := 62) dX6_isLeap_47 (by decide) (by omega) (by omega) (fun c47 => ?_) (fun c47 => ?_)
    · skip
      refine J_iconst C (v := nI 0) dX6_isLeap_62 (by decide) ?_
      exact E (b := false) dX6_isLeap_63 (⟨(decide_eq_false (fun h => h.1 c47)).symm, rfl⟩)
    · skip
      refine J_iload_n C dX6_isLeap_50 rfl rfl ?_
      refine J_aload_n C dX6_isLeap_51 rfl rfl ?_
      refine G6n_leapNow hr C wd_10_17 dX6_isLeap_52 ?_
      refine J_icmp_gt_n C (tgt := 62) dX6_isLeap_55 (by decide) (by omega) (by omega) (fun c55 => ?_) (fun c55 => ?_)
      · skip
        refine J_iconst C (v := nI 0) dX6_isLeap_62 (by decide) ?_
        exact E (b := false) dX6_isLeap_63 (⟨(decide_eq_false (fun h => by have := h.2; unfold adf at this; omega)).symm, rfl⟩)
      · skip
        refine J_iconst C (v := nI 1) dX6_isLeap_58 (by decide) ?_
        refine J_goto (tgt := 63) C dX6_isLeap_59 (by decide) ?_
        exact E (b := true) dX6_isLeap_63 (⟨(decide_eq_true ⟨c47, by unfold adf; omega⟩).symm, rfl⟩)
  · skip
    refine J_aload_n C dX6_isLeap_15 rfl rfl ?_
    refine G6_height C wd_3_21 dX6_isLeap_16 ?_
    refine J_iload_n C dX6_isLeap_19 rfl rfl ?_
    refine LMn_height hr ok C (by omega) dX6_isLeap_20 ?_
    refine J_aload_n C dX6_isLeap_21 rfl rfl ?_
    refine G6_height C wd_3_21 dX6_isLeap_22 ?_
    refine J_iload_n C dX6_isLeap_25 rfl rfl ?_
    refine LMn_height hr ok C (by omega) dX6_isLeap_26 ?_
    refine J_isub C (v := nI ((a.2 0 p) - (a.2 0 q))) dX6_isLeap_27 (pk_sub (a := a.2 0 p) (b := a.2 0 q) (by omega)) ?_
    refine J_goto (tgt := 44) C dX6_isLeap_28 (by decide) ?_
    refine J_istore_n C (L' := [some (.ref (Z.2.1 0)), some (.int (nI p)), some (.int (nI q)), some (.int (nI ((a.2 0 p) - (a.2 0 q))))]) dX6_isLeap_44 rfl (by decide) rfl rfl ?_
    refine J_iload_n C dX6_isLeap_45 rfl rfl ?_
    refine J_iload_n C dX6_isLeap_46 rfl rfl ?_
    refine J_icmp_eq_n C (tgt := 62) dX6_isLeap_47 (by decide) (by omega) (by omega) (fun c47 => ?_) (fun c47 => ?_)
    · skip
      refine J_iconst C (v := nI 0) dX6_isLeap_62 (by decide) ?_
      exact E (b := false) dX6_isLeap_63 (⟨(decide_eq_false (fun h => h.1 c47)).symm, rfl⟩)
    · skip
      refine J_iload_n C dX6_isLeap_50 rfl rfl ?_
      refine J_aload_n C dX6_isLeap_51 rfl rfl ?_
      refine G6n_leapNow hr C wd_10_17 dX6_isLeap_52 ?_
      refine J_icmp_gt_n C (tgt := 62) dX6_isLeap_55 (by decide) (by omega) (by omega) (fun c55 => ?_) (fun c55 => ?_)
      · skip
        refine J_iconst C (v := nI 0) dX6_isLeap_62 (by decide) ?_
        exact E (b := false) dX6_isLeap_63 (⟨(decide_eq_false (fun h => by have := h.2; unfold adf at this; omega)).symm, rfl⟩)
      · skip
        refine J_iconst C (v := nI 1) dX6_isLeap_58 (by decide) ?_
        refine J_goto (tgt := 63) C dX6_isLeap_59 (by decide) ?_
        exact E (b := true) dX6_isLeap_63 (⟨(decide_eq_true ⟨c47, by unfold adf; omega⟩).symm, rfl⟩)
def rm_X6_findLeaps : Room := ({ frames := 1, cells := 0, slots := 0, locals := 23 })
set_option maxRecDepth 20000 in
theorem c_X6_findLeaps (l : Launch) (Z : EC) (x : Mt) (a : SA) (hr : MdR x a) (ok : SOK a) (g : Nat) (hg : g < a.1 3) : MIv l Z (wM Z) yX6_findLeaps cX6_findLeaps 5 rm_X6_findLeaps [.ref (Z.2.1 0), .int (nI g)] x (fun x1 => F28 x x1 ∧ FM x1 (a.1 3) (FLp a g)) := by
  obtain ⟨ok0, ok1, ok2, ok3, ok4, ok5, ok6, ok7⟩ := id ok
  refine MIv_of (own := RX6) (L0 := [some (.ref (Z.2.1 0)), some (.int (nI g)), none, none, none]) (by decide) rfl (Nat.le_of_ble_eq_true rfl) ⟨rfl, rfl, trivial⟩ ?_
  intro Γ C E
  refine J_iconst C (v := nI 0) dX6_findLeaps_0 (by decide) ?_
  refine J_istore_n C (L' := [some (.ref (Z.2.1 0)), some (.int (nI g)), some (.int (nI 0)), none, none]) dX6_findLeaps_1 rfl (by decide) rfl rfl ?_
  have lp2 : ∀ (f : Nat) (i : Nat) (y : Mt), (i ≤ a.1 3) → (F28 x y) → (∀ j, j < i → y.2 28 j = less1 (fl (a.1 3) (nbL a) g 0 j)) → (a.1 3 - i < f) →  J Γ y 2 [some (.ref (Z.2.1 0)), some (.int (nI g)), some (.int (nI i)), none, none] [] := by
    intro f
    induction f with
    | zero =>
      intro i y hi hyf hyi hf
      omega
    | succ f ih2 =>
      intro i y hi hyf hyi hf
      refine J_iload_n C dX6_findLeaps_2 rfl rfl ?_
      refine J_aload_n C dX6_findLeaps_3 rfl rfl ?_
      refine G6n_pools (hyf.md hr) C wd_10_18 dX6_findLeaps_4 ?_
      refine J_icmp_ge_n C (tgt := 33) dX6_findLeaps_7 (by decide) (by omega) (by omega) (fun c7 => ?_) (fun c7 => ?_)
      · skip
        refine J_iconst C (v := nI 0) dX6_findLeaps_33 (by decide) ?_
        refine J_istore_n C (L' := [some (.ref (Z.2.1 0)), some (.int (nI g)), some (.int (nI 0)), none, none]) dX6_findLeaps_34 rfl (by decide) rfl rfl ?_
        have lp35 : ∀ (f : Nat) (k : Nat) (y : Mt), (k ≤ 6) → (F28 x y) → (FM y (a.1 3) (fl (a.1 3) (nbL a) g k)) → (6 - k < f) →  J Γ y 35 [some (.ref (Z.2.1 0)), some (.int (nI g)), some (.int (nI k)), none, none] [] := by
          intro f
          induction f with
          | zero =>
            intro k y hk hyf hya hf2
            omega
          | succ f ih35 =>
            intro k y hk hyf hya hf2
            refine J_iload_n C dX6_findLeaps_35 rfl rfl ?_
            refine J_bipush C (v := nI 6) dX6_findLeaps_36 (by decide) ?_
            refine J_icmp_ge_n C (tgt := 127) dX6_findLeaps_38 (by decide) (by omega) (by omega) (fun c38 => ?_) (fun c38 => ?_)
            · skip
              exact E dX6_findLeaps_127 (⟨hyf, fun q hq => by have h9 := hya q hq; rw [show k = 6 by omega] at h9; exact h9⟩)
            · skip
              refine J_iconst C (v := nI 0) dX6_findLeaps_41 (by decide) ?_
              refine J_istore_n C (L' := [some (.ref (Z.2.1 0)), some (.int (nI g)), some (.int (nI k)), some (.int (nI 0)), none]) dX6_findLeaps_42 rfl (by decide) rfl rfl ?_
              have lp43 : ∀ (f : Nat) (p : Nat) (y : Mt), (p ≤ a.1 3) → (F28 x y) → (FM y (a.1 3) (mix (a.1 3) (nbL a) g k p)) → (a.1 3 - p < f) →  J Γ y 43 [some (.ref (Z.2.1 0)), some (.int (nI g)), some (.int (nI k)), some (.int (nI p)), none] [] := by
                intro f
                induction f with
                | zero =>
                  intro p y hp hyf hyb hf3
                  omega
                | succ f ih43 =>
                  intro p y hp hyf hyb hf3
                  refine J_iload_n C dX6_findLeaps_43 rfl rfl ?_
                  refine J_aload_n C dX6_findLeaps_44 rfl rfl ?_
                  refine G6n_pools (hyf.md hr) C wd_10_18 dX6_findLeaps_45 ?_
                  refine J_icmp_ge_n C (tgt := 121) dX6_findLeaps_48 (by decide) (by omega) (by omega) (fun c48 => ?_) (fun c48 => ?_)
                  · skip
                    refine J_iinc C (v := nI (k + 1)) (L' := [some (.ref (Z.2.1 0)), some (.int (nI g)), some (.int (nI (k + 1))), some (.int (nI p)), none]) dX6_findLeaps_121 rfl (nI_1 _) (by decide) rfl rfl ?_
                    refine J_goto (tgt := 35) C dX6_findLeaps_124 (by decide) ?_
                    refine J_drop ?_ (ih35 (k + 1) y (by omega) hyf (fm_next ((show p = a.1 3 by omega) ▸ hyb)) (by omega))
                    exact ⟨rfl, rfl, rfl, trivial⟩
                  · skip
                    refine J_iconst C (v := nI 0) dX6_findLeaps_51 (by decide) ?_
                    refine J_istore C (L' := [some (.ref (Z.2.1 0)), some (.int (nI g)), some (.int (nI k)), some (.int (nI p)), some (.int (nI 0))]) dX6_findLeaps_52 (by decide) rfl rfl ?_
                    have lp54 : ∀ (f : Nat) (b : Nat) (y : Mt), (b ≤ (a.1 3)) → (F28 x y) → (FM y (a.1 3) (mid (a.1 3) (nbL a) g k p b)) → ((a.1 3) - b < f) →  J Γ y 54 [some (.ref (Z.2.1 0)), some (.int (nI g)), some (.int (nI k)), some (.int (nI p)), some (.int (nI b))] [] := by
                      intro f
                      induction f with
                      | zero =>
                        intro b y hb hyf hyc hf4
                        omega
                      | succ f ih54 =>
                        intro b y hb hyf hyc hf4
                        refine J_iload C dX6_findLeaps_54 rfl ?_
                        refine J_aload_n C dX6_findLeaps_56 rfl rfl ?_
                        refine G6n_pools (hyf.md hr) C wd_10_18 dX6_findLeaps_57 ?_
                        refine J_icmp_ge_n C (tgt := 115) dX6_findLeaps_60 (by decide) (by omega) (by omega) (fun c60 => ?_) (fun c60 => ?_)
                        · skip
                          refine J_iinc C (v := nI (p + 1)) (L' := [some (.ref (Z.2.1 0)), some (.int (nI g)), some (.int (nI k)), some (.int (nI (p + 1))), some (.int (nI b))]) dX6_findLeaps_115 rfl (nI_1 _) (by decide) rfl rfl ?_
                          refine J_goto (tgt := 43) C dX6_findLeaps_118 (by decide) ?_
                          refine J_drop ?_ (ih43 (p + 1) y (by omega) hyf (fm_outA hyc (by omega) (by omega)) (by omega))
                          exact ⟨rfl, rfl, rfl, rfl, trivial⟩
                        · skip
                          refine J_aload_n C dX6_findLeaps_63 rfl rfl ?_
                          refine G6_left C wd_4_8 dX6_findLeaps_64 ?_
                          refine J_iload_n C dX6_findLeaps_67 rfl rfl ?_
                          refine LM_left C (v := less1 (mid (a.1 3) (nbL a) g k p b p)) (by omega) (hyc p (by omega)) dX6_findLeaps_68 ?_
                          refine J_bipush C (v := (-9)) dX6_findLeaps_69 (by decide) ?_
                          refine J_icmp_ne C (tgt := 115) dX6_findLeaps_71 (by decide) (fun c71 => ?_) (fun c71 => ?_)
                          · skip
                            refine J_iinc C (v := nI (p + 1)) (L' := [some (.ref (Z.2.1 0)), some (.int (nI g)), some (.int (nI k)), some (.int (nI (p + 1))), some (.int (nI b))]) dX6_findLeaps_115 rfl (nI_1 _) (by decide) rfl rfl ?_
                            refine J_goto (tgt := 43) C dX6_findLeaps_118 (by decide) ?_
                            refine J_drop ?_ (ih43 (p + 1) y (by omega) hyf (fm_outB hyc (fun e => c71 ((less1_9 (by have := mid_le (M := (a.1 3)) (nb := (nbL a)) (g := g) (k := k) (p := p) (b := b)  p; omega)).mpr e)) (by omega)) (by omega))
                            exact ⟨rfl, rfl, rfl, rfl, trivial⟩
                          · skip
                            have hm0 : mid (a.1 3) (nbL a) g k p b p = 0 := less1_eq c71 (by have := mid_le (M := (a.1 3)) (nb := (nbL a)) (g := g) (k := k) (p := p) (b := b)  p; omega)
                            refine J_aload_n C dX6_findLeaps_74 rfl rfl ?_
                            refine G6_left C wd_4_8 dX6_findLeaps_75 ?_
                            refine J_iload_n C dX6_findLeaps_78 rfl rfl ?_
                            refine J_aload_n C dX6_findLeaps_79 rfl rfl ?_
                            refine G6_left C wd_4_8 dX6_findLeaps_80 ?_
                            refine J_iload C dX6_findLeaps_83 rfl ?_
                            refine LM_left C (v := less1 (mid (a.1 3) (nbL a) g k p b b)) (by omega) (hyc b (by omega)) dX6_findLeaps_85 ?_
                            refine J_iload_n C dX6_findLeaps_86 rfl rfl ?_
                            refine J_icmp_ne C (tgt := 106) dX6_findLeaps_87 (by decide) (fun c87 => ?_) (fun c87 => ?_)
                            · skip
                              refine J_bipush C (v := (-9)) dX6_findLeaps_106 (by decide) ?_
                              refine SM_left C (by omega) dX6_findLeaps_108 ?_
                              refine J_iinc C (v := nI (b + 1)) (L' := [some (.ref (Z.2.1 0)), some (.int (nI g)), some (.int (nI k)), some (.int (nI p)), some (.int (nI (b + 1)))]) dX6_findLeaps_109 rfl (nI_1 _) (by decide) rfl rfl ?_
                              refine J_goto (tgt := 54) C dX6_findLeaps_112 (by decide) ?_
                              refine J_drop ?_ (ih54 (b + 1) (mA y 28 (upd (y.2 28) p (-9))) (by omega) (hyf.tr F28.arr) (fm_set hyc (mid_no hm0 (fun e => c87 ((less1_d (by have := mid_le (M := a.1 3) (nb := nbL a) (g := g) (k := k) (p := p) (b := b) b; omega) (by omega)).mpr ((mid_lab hm0).mpr ((nbL_lab (mid_0 hm0).1).mp e).1)))) rfl) (by omega))
                              exact ⟨rfl, rfl, rfl, rfl, rfl, trivial⟩
                            · skip
                              refine J_aload_n C dX6_findLeaps_90 rfl rfl ?_
                              refine J_iload_n C dX6_findLeaps_91 rfl rfl ?_
                              refine J_iload C dX6_findLeaps_92 rfl ?_
                              refine J_callVz C (q0 := 0) (ci := 6) (N := 33) (As := [.int (nI p), .int (nI b)]) (c_X6_isLeap l Z _ a (hyf.md hr) ok _ _ (by omega) (by omega)) cw_RX6_198 wd_27_20 wd_27_21 rfl rfl rfl rfl (Nat.le_of_ble_eq_true rfl) rfl rfl (Nat.le_of_ble_eq_true rfl) (Nat.le_of_ble_eq_true rfl) dX6_findLeaps_94 (fun b94 x94 hp94 => ?_)
                              obtain ⟨rfl, rfl⟩ := hp94
                              refine J_if_eq_d C (tgt := 106) dX6_findLeaps_97 (by decide) (fun c97 => ?_) (fun c97 => ?_)
                              · skip
                                refine J_bipush C (v := (-9)) dX6_findLeaps_106 (by decide) ?_
                                refine SM_left C (by omega) dX6_findLeaps_108 ?_
                                refine J_iinc C (v := nI (b + 1)) (L' := [some (.ref (Z.2.1 0)), some (.int (nI g)), some (.int (nI k)), some (.int (nI p)), some (.int (nI (b + 1)))]) dX6_findLeaps_109 rfl (nI_1 _) (by decide) rfl rfl ?_
                                refine J_goto (tgt := 54) C dX6_findLeaps_112 (by decide) ?_
                                refine J_drop ?_ (ih54 (b + 1) (mA y 28 (upd (y.2 28) p (-9))) (by omega) (hyf.tr F28.arr) (fm_set hyc (mid_no hm0 (fun e => c97 ((nbL_lab (mid_0 hm0).1).mp e).2)) rfl) (by omega))
                                exact ⟨rfl, rfl, rfl, rfl, rfl, trivial⟩
                              · skip
                                refine J_iload_n C dX6_findLeaps_100 rfl rfl ?_
                                refine J_iconst C (v := nI 1) dX6_findLeaps_101 (by decide) ?_
                                refine J_iadd C (v := nI (k + 1)) dX6_findLeaps_102 (nI_add _ _) ?_
                                refine J_goto (tgt := 108) C dX6_findLeaps_103 (by decide) ?_
                                refine SM_left C (by omega) dX6_findLeaps_108 ?_
                                refine J_iinc C (v := nI (b + 1)) (L' := [some (.ref (Z.2.1 0)), some (.int (nI g)), some (.int (nI k)), some (.int (nI p)), some (.int (nI (b + 1)))]) dX6_findLeaps_109 rfl (nI_1 _) (by decide) rfl rfl ?_
                                refine J_goto (tgt := 54) C dX6_findLeaps_112 (by decide) ?_
                                refine J_drop ?_ (ih54 (b + 1) (mA y 28 (upd (y.2 28) p (nI (k + 1)))) (by omega) (hyf.tr F28.arr) (fm_set hyc (mid_yes hm0 ((nbL_lab (mid_0 hm0).1).mpr ⟨(mid_lab hm0).mp ((less1_d (by have := mid_le (M := a.1 3) (nb := nbL a) (g := g) (k := k) (p := p) (b := b) b; omega) (by omega)).mp c87), c97⟩)) rfl) (by omega))
                                exact ⟨rfl, rfl, rfl, rfl, rfl, trivial⟩
                    refine J_drop ?_ (lp54 ((a.1 3) + 1) 0 y (by omega) hyf (fm_in hyb) (by omega))
                    exact ⟨rfl, rfl, rfl, rfl, rfl, trivial⟩
              refine J_drop ?_ (lp43 (a.1 3 + 1) 0 y (by omega) hyf (fm_round hya) (by omega))
              exact ⟨rfl, rfl, rfl, rfl, trivial⟩
        refine J_drop ?_ (lp35 (6 + 1) 0 y (by omega) hyf (fun q hq => hyi q (by omega)) (by omega))
        exact ⟨rfl, rfl, rfl, trivial⟩
      · skip
        refine J_aload_n C dX6_findLeaps_10 rfl rfl ?_
        refine G6_left C wd_4_8 dX6_findLeaps_11 ?_
        refine J_iload_n C dX6_findLeaps_14 rfl rfl ?_
        refine J_iload_n C dX6_findLeaps_15 rfl rfl ?_
        refine J_iload_n C dX6_findLeaps_16 rfl rfl ?_
        refine J_icmp_ne_n C (tgt := 24) dX6_findLeaps_17 (by decide) (by omega) (by omega) (fun c17 => ?_) (fun c17 => ?_)
        · skip
          refine J_bipush C (v := (-9)) dX6_findLeaps_24 (by decide) ?_
          refine SM_left C (by omega) dX6_findLeaps_26 ?_
          refine J_iinc C (v := nI (i + 1)) (L' := [some (.ref (Z.2.1 0)), some (.int (nI g)), some (.int (nI (i + 1))), none, none]) dX6_findLeaps_27 rfl (nI_1 _) (by decide) rfl rfl ?_
          refine J_goto (tgt := 2) C dX6_findLeaps_30 (by decide) ?_
          refine J_drop ?_ (ih2 (i + 1) (mA y 28 (upd (y.2 28) i (-9))) (by omega) (hyf.tr F28.arr) (fm_start hyi (by rw [show fl (a.1 3) (nbL a) g 0 i = 0 from if_neg c17]; rfl)) (by omega))
          exact ⟨rfl, rfl, rfl, trivial⟩
        · skip
          refine J_iconst C (v := nI 0) dX6_findLeaps_20 (by decide) ?_
          refine J_goto (tgt := 26) C dX6_findLeaps_21 (by decide) ?_
          refine SM_left C (by omega) dX6_findLeaps_26 ?_
          refine J_iinc C (v := nI (i + 1)) (L' := [some (.ref (Z.2.1 0)), some (.int (nI g)), some (.int (nI (i + 1))), none, none]) dX6_findLeaps_27 rfl (nI_1 _) (by decide) rfl rfl ?_
          refine J_goto (tgt := 2) C dX6_findLeaps_30 (by decide) ?_
          refine J_drop ?_ (ih2 (i + 1) (mA y 28 (upd (y.2 28) i (nI 0))) (by omega) (hyf.tr F28.arr) (fm_start hyi (by rw [show fl (a.1 3) (nbL a) g 0 i = 1 from if_pos c17]; rfl)) (by omega))
          exact ⟨rfl, rfl, rfl, trivial⟩
  refine J_drop ?_ (lp2 (a.1 3 + 1) 0 x (by omega) F28.rf (fun j hj => absurd hj (Nat.not_lt_zero j)) (by omega))
  exact ⟨rfl, rfl, rfl, trivial⟩
def rm_X6_nextLeap : Room := ({ frames := 1, cells := 0, slots := 0, locals := 23 })
set_option maxRecDepth 20000 in
theorem c_X6_nextLeap (l : Launch) (Z : EC) (x : Mt) (a : SA) (hr : MdR x a) (ok : SOK a) (g p : Nat) (hp : p < a.1 3) (h2 : 2 ≤ FLp a g p) (hF : FM x (a.1 3) (FLp a g)) : MIi l Z (wM Z) yX6_nextLeap cX6_nextLeap 3 rm_X6_nextLeap [.ref (Z.2.1 0), .int (nI p)] x (fun r x1 => r = nI (mv (a.1 3) (nbL a) g p) ∧ x = x1) := by
  obtain ⟨ok0, ok1, ok2, ok3, ok4, ok5, ok6, ok7⟩ := id ok
  have hmv := mv_lt (M := a.1 3) (nb := nbL a) (g := g) (q := p) h2
  have hfl : ∀ q, FLp a g q ≤ 7 := fun q => fl_le 6 q
  refine MIi_of (own := RX6) (L0 := [some (.ref (Z.2.1 0)), some (.int (nI p)), none]) (by decide) rfl (Nat.le_of_ble_eq_true rfl) ⟨rfl, rfl, trivial⟩ ?_
  intro Γ C E
  refine J_iconst C (v := nI 0) dX6_nextLeap_0 (by decide) ?_
  refine J_istore_n C (L' := [some (.ref (Z.2.1 0)), some (.int (nI p)), some (.int (nI 0))]) dX6_nextLeap_1 rfl (by decide) rfl rfl ?_
  have lp2 : ∀ (f : Nat) (b : Nat), (¬ fst (fun m => FLp a g (nbL a p m) == FLp a g p - 1) b < b) → (mv (a.1 3) (nbL a) g p + 1 - b < f) →  J Γ x 2 [some (.ref (Z.2.1 0)), some (.int (nI p)), some (.int (nI b))] [] := by
    intro f
    induction f with
    | zero =>
      intro b hv hf
      exact absurd hf (Nat.not_lt_zero _)
    | succ f ih2 =>
      intro b hv hf
      have hbd : b ≤ mv (a.1 3) (nbL a) g p := fst_bd hmv hv
      have hfp := hfl p
      have hfb := hfl b
      refine J_aload_n C dX6_nextLeap_2 rfl rfl ?_
      refine J_iload_n C dX6_nextLeap_3 rfl rfl ?_
      refine J_iload_n C dX6_nextLeap_4 rfl rfl ?_
      refine J_callVz C (q0 := 0) (ci := 6) (N := 33) (As := [.int (nI p), .int (nI b)]) (c_X6_isLeap l Z _ a hr ok _ _ (by omega) (by omega)) cw_RX6_198 wd_27_20 wd_27_21 rfl rfl rfl rfl (Nat.le_of_ble_eq_true rfl) rfl rfl (Nat.le_of_ble_eq_true rfl) (Nat.le_of_ble_eq_true rfl) dX6_nextLeap_5 (fun b5 x5 hp5 => ?_)
      obtain ⟨rfl, rfl⟩ := hp5
      refine J_if_eq_d C (tgt := 28) dX6_nextLeap_8 (by decide) (fun c8 => ?_) (fun c8 => ?_)
      · skip
        refine J_iinc C (v := nI (b + 1)) (L' := [some (.ref (Z.2.1 0)), some (.int (nI p)), some (.int (nI (b + 1)))]) dX6_nextLeap_28 rfl (nI_1 _) (by decide) rfl rfl ?_
        refine J_goto (tgt := 2) C dX6_nextLeap_31 (by decide) ?_
        refine J_drop ?_ (ih2 (b + 1) (fst_go hv (by have h9 : ¬ FLp a g (nbL a p b) = FLp a g p - 1 := fun e => c8 ((nbL_lab2 h2).mp e).2; simpa using h9)) (by omega))
        exact ⟨rfl, rfl, rfl, trivial⟩
      · skip
        refine J_aload_n C dX6_nextLeap_11 rfl rfl ?_
        refine G6_left C wd_4_8 dX6_nextLeap_12 ?_
        refine J_iload_n C dX6_nextLeap_15 rfl rfl ?_
        refine LM_left C (v := less1 (FLp a g b)) (by omega) (hF b (by omega)) dX6_nextLeap_16 ?_
        refine J_aload_n C dX6_nextLeap_17 rfl rfl ?_
        refine G6_left C wd_4_8 dX6_nextLeap_18 ?_
        refine J_iload_n C dX6_nextLeap_21 rfl rfl ?_
        refine LM_left C (v := nI (FLp a g p - 1)) (by omega) ((hF p (by omega)).trans (if_neg (by omega))) dX6_nextLeap_22 ?_
        refine J_iconst C (v := nI 1) dX6_nextLeap_23 (by decide) ?_
        refine J_isub C (v := nI ((FLp a g p - 1) - 1)) dX6_nextLeap_24 (pk_sub (a := FLp a g p - 1) (b := 1) (by omega)) ?_
        refine J_icmp_eq C (tgt := 34) dX6_nextLeap_25 (by decide) (fun c25 => ?_) (fun c25 => ?_)
        · skip
          refine J_iload_n C dX6_nextLeap_34 rfl rfl ?_
          exact E dX6_nextLeap_35 (⟨congrArg nI (fst_hit hv (by have h9 : FLp a g (nbL a p b) = FLp a g p - 1 := (nbL_lab2 h2).mpr ⟨by have := (less1_d (f := FLp a g b) (d := FLp a g p - 1 - 1) (by omega) (by omega)).mp c25; omega, c8⟩; simpa using h9) (by omega)).symm, rfl⟩)
        · skip
          refine J_iinc C (v := nI (b + 1)) (L' := [some (.ref (Z.2.1 0)), some (.int (nI p)), some (.int (nI (b + 1)))]) dX6_nextLeap_28 rfl (nI_1 _) (by decide) rfl rfl ?_
          refine J_goto (tgt := 2) C dX6_nextLeap_31 (by decide) ?_
          refine J_drop ?_ (ih2 (b + 1) (fst_go hv (by have h9 : ¬ FLp a g (nbL a p b) = FLp a g p - 1 := fun e => c25 ((less1_d (f := FLp a g b) (d := FLp a g p - 1 - 1) (by omega) (by omega)).mpr (by have := ((nbL_lab2 h2).mp e).1; omega)); simpa using h9)) (by omega))
          exact ⟨rfl, rfl, rfl, trivial⟩
  refine J_drop ?_ (lp2 (mv (a.1 3) (nbL a) g p + 2) 0 (Nat.not_lt_zero _) (by omega))
  exact ⟨rfl, rfl, rfl, trivial⟩
def rm_X6_leaps : Room := ({ frames := 2, cells := 0, slots := 0, locals := 47 })
set_option maxRecDepth 20000 in
theorem c_X6_leaps (l : Launch) (Z : EC) (x : Mt) (A : AB) (hA : AbsM x A) (hk : AOK A) (a b k : Int32) : MIi l Z (wM Z) yX6_leaps cX6_leaps 6 rm_X6_leaps [.ref (Z.2.1 0), .int a, .int b, .int k] x (fun r x1 => r = R_leaps A a b k ∧ AbsM x1 A) := by
  obtain ⟨hr, hH, hR, hT, hF⟩ := id hA
  obtain ⟨ok, hkH, hkR, hkr⟩ := id hk
  obtain ⟨ok0, ok1, ok2, ok3, ok4, ok5, ok6, ok7⟩ := id ok
  refine MIi_of (own := RX6) (L0 := [some (.ref (Z.2.1 0)), some (.int a), some (.int b), some (.int k), none, none]) (by decide) rfl (Nat.le_of_ble_eq_true rfl) ⟨rfl, rfl, rfl, rfl, trivial⟩ ?_
  intro Γ C E
  refine J_aload_n C dX6_leaps_0 rfl rfl ?_
  refine J_iload_n C dX6_leaps_1 rfl rfl ?_
  refine J_callVz C (q0 := 0) (ci := 6) (N := 33) (As := [.int a]) (c_X6_isPool l Z _ A.1 hr ok _) cw_RX6_145 wd_12_8 wd_12_9 rfl rfl rfl rfl (Nat.le_of_ble_eq_true rfl) rfl rfl (Nat.le_of_ble_eq_true rfl) (Nat.le_of_ble_eq_true rfl) dX6_leaps_2 (fun b2 x2 hp2 => ?_)
  obtain ⟨rfl, rfl⟩ := hp2
  refine J_if_eq_d C (tgt := 16) dX6_leaps_5 (by decide) (fun c5 => ?_) (fun c5 => ?_)
  · skip
    refine J_iconst C (v := (-1)) dX6_leaps_16 (by decide) ?_
    exact E dX6_leaps_17 (⟨by rw [R_leaps, if_neg c5], hA⟩)
  · skip
    obtain ⟨an, han, rfl⟩ := rng_nat c5
    have tan := tn_nI (n := an) (by omega)
    refine J_aload_n C dX6_leaps_8 rfl rfl ?_
    refine J_iload_n C dX6_leaps_9 rfl rfl ?_
    refine J_callVz C (q0 := 0) (ci := 6) (N := 33) (As := [.int b]) (c_X6_isPool l Z _ A.1 hr ok _) cw_RX6_145 wd_12_8 wd_12_9 rfl rfl rfl rfl (Nat.le_of_ble_eq_true rfl) rfl rfl (Nat.le_of_ble_eq_true rfl) (Nat.le_of_ble_eq_true rfl) dX6_leaps_10 (fun b10 x10 hp10 => ?_)
    obtain ⟨rfl, rfl⟩ := hp10
    refine J_if_ne_d C (tgt := 18) dX6_leaps_13 (by decide) (fun c13 => ?_) (fun c13 => ?_)
    · skip
      obtain ⟨bn, hbn, rfl⟩ := rng_nat c13
      have tbn := tn_nI (n := bn) (by omega)
      refine J_iload_n C dX6_leaps_18 rfl rfl ?_
      refine J_iconst C (v := (-1)) dX6_leaps_19 (by decide) ?_
      refine J_iconst C (v := nI 5) dX6_leaps_20 (by decide) ?_
      refine J_callSz C (As := [.int k, .int (-1), .int (nI 5)]) (c_X6_within l Z _ _ _ _ (-1) (5) (by decide) (by decide)) cw_RX6_70 wd_8_21 rfl rfl (Nat.le_of_ble_eq_true rfl) rfl rfl (Nat.le_of_ble_eq_true rfl) (Nat.le_of_ble_eq_true rfl) dX6_leaps_21 (fun b21 x21 hp21 => ?_)
      obtain ⟨rfl, rfl⟩ := hp21
      refine J_if_ne_d C (tgt := 30) dX6_leaps_24 (by decide) (fun c24 => ?_) (fun c24 => ?_)
      · skip
        refine J_aload_n C dX6_leaps_30 rfl rfl ?_
        refine J_iload_n C dX6_leaps_31 rfl rfl ?_
        refine J_callVv C (q0 := 0) (ci := 6) (N := 33) (As := [.int (nI bn)]) (c_X6_findLeaps l Z _ A.1 hr ok _ hbn) cw_RX6_201 wd_27_16 wd_27_17 rfl rfl rfl rfl (Nat.le_of_ble_eq_true rfl) rfl rfl (Nat.le_of_ble_eq_true rfl) (Nat.le_of_ble_eq_true rfl) dX6_leaps_32 (fun x32 hp32 => ?_)
        obtain ⟨hf32, hF32⟩ := hp32
        have hfl : FLp A.1 bn an ≤ 7 := fl_le 6 an
        refine J_iload_n C dX6_leaps_35 rfl rfl ?_
        refine J_iconst C (v := (-1)) dX6_leaps_36 (by decide) ?_
        refine J_icmp_eq C (tgt := 51) dX6_leaps_37 (by decide) (fun c37 => ?_) (fun c37 => ?_)
        · skip
          refine J_aload_n C dX6_leaps_51 rfl rfl ?_
          refine G6_left C wd_4_8 dX6_leaps_52 ?_
          refine J_iload_n C dX6_leaps_55 rfl rfl ?_
          refine LM_left C (v := less1 (FLp A.1 bn an)) (by omega) (hF32 an (by omega)) dX6_leaps_56 ?_
          exact E dX6_leaps_57 (⟨by rw [R_leaps, if_pos c5, if_pos c13, if_pos c24, tan, tbn]; exact (if_pos (neg1 c37)).symm, hf32.abs hA⟩)
        · skip
          refine J_aload_n C dX6_leaps_40 rfl rfl ?_
          refine G6_left C wd_4_8 dX6_leaps_41 ?_
          refine J_iload_n C dX6_leaps_44 rfl rfl ?_
          refine LM_left C (v := less1 (FLp A.1 bn an)) (by omega) (hF32 an (by omega)) dX6_leaps_45 ?_
          refine J_bipush C (v := (-9)) dX6_leaps_46 (by decide) ?_
          refine J_icmp_ne C (tgt := 58) dX6_leaps_48 (by decide) (fun c48 => ?_) (fun c48 => ?_)
          · skip
            have hF0 : FLp A.1 bn an ≠ 0 := fun e => c48 (by rw [e]; rfl)
            obtain ⟨kn, k0, k5, rfl⟩ := rng_nat2 (q := k) (A := 0) (B := 5) ⟨nI_neg c24.1 c37, c24.2⟩
            have tnk := tn_nI (n := kn) (by omega)
            have ekn := nI_i (n := kn) (by omega)
            refine J_iload_n C dX6_leaps_58 rfl rfl ?_
            refine J_aload_n C dX6_leaps_59 rfl rfl ?_
            refine G6_left C wd_4_8 dX6_leaps_60 ?_
            refine J_iload_n C dX6_leaps_63 rfl rfl ?_
            refine LM_left C (v := nI (FLp A.1 bn an - 1)) (by omega) ((hF32 an (by omega)).trans (if_neg hF0)) dX6_leaps_64 ?_
            refine J_icmp_le_n C (tgt := 71) dX6_leaps_65 (by decide) (by omega) (by omega) (fun c65 => ?_) (fun c65 => ?_)
            · skip
              refine J_iload_n C dX6_leaps_71 rfl rfl ?_
              refine J_istore C (L' := [some (.ref (Z.2.1 0)), some (.int (nI an)), some (.int (nI bn)), some (.int (nI kn)), some (.int (nI an)), none]) dX6_leaps_72 (by decide) rfl rfl ?_
              refine J_iconst C (v := nI 0) dX6_leaps_74 (by decide) ?_
              refine J_istore C (L' := [some (.ref (Z.2.1 0)), some (.int (nI an)), some (.int (nI bn)), some (.int (nI kn)), some (.int (nI an)), some (.int (nI 0))]) dX6_leaps_75 (by decide) rfl rfl ?_
              have lp77 : ∀ (f : Nat) (n : Nat), (n ≤ kn) → (kn - n < f) →  J Γ x32 77 [some (.ref (Z.2.1 0)), some (.int (nI an)), some (.int (nI bn)), some (.int (nI kn)), some (.int (nI (ps (A.1.1 3) (nbL A.1) bn an n))), some (.int (nI n))] [] := by
                intro f
                induction f with
                | zero =>
                  intro n hn hf
                  omega
                | succ f ih77 =>
                  intro n hn hf
                  have hk1 : kn + 1 ≤ FLp A.1 bn an := by omega
                  have hps := ps_P (M := A.1.1 3) (g := bn) (P := A.1.1 3) nbL_lt han (k := n) (show n + 1 ≤ FLp A.1 bn an by omega)
                  have hpf : FLp A.1 bn (ps (A.1.1 3) (nbL A.1) bn an n) = FLp A.1 bn an - n := ps_fl (show n + 1 ≤ FLp A.1 bn an by omega)
                  refine J_iload C dX6_leaps_77 rfl ?_
                  refine J_iload_n C dX6_leaps_79 rfl rfl ?_
                  refine J_icmp_ge_n C (tgt := 97) dX6_leaps_80 (by decide) (by omega) (by omega) (fun c80 => ?_) (fun c80 => ?_)
                  · skip
                    refine J_iload C dX6_leaps_97 rfl ?_
                    exact E dX6_leaps_99 (⟨by rw [R_leaps, if_pos c5, if_pos c13, if_pos c24, tan, tbn]; exact (by rw [ekn, tnk, if_neg (show ¬ (kn : Int) < 0 by omega), if_pos (show kn + 1 ≤ FLp A.1 bn an by omega), show n = kn by omega]), hf32.abs hA⟩)
                  · skip
                    refine J_aload_n C dX6_leaps_83 rfl rfl ?_
                    refine J_iload C dX6_leaps_84 rfl ?_
                    refine J_callVi C (q0 := 0) (ci := 6) (N := 33) (As := [.int (nI (ps (A.1.1 3) (nbL A.1) bn an n))]) (c_X6_nextLeap l Z _ A.1 (hf32.md hr) ok bn _ hps (show 2 ≤ FLp A.1 bn (ps (A.1.1 3) (nbL A.1) bn an n) by omega) hF32) cw_RX6_205 wd_28_0 wd_28_1 rfl rfl rfl rfl (Nat.le_of_ble_eq_true rfl) rfl rfl (Nat.le_of_ble_eq_true rfl) (Nat.le_of_ble_eq_true rfl) dX6_leaps_86 (fun r86 x86 hp86 => ?_)
                    obtain ⟨rfl, rfl⟩ := hp86
                    refine J_istore C (L' := [some (.ref (Z.2.1 0)), some (.int (nI an)), some (.int (nI bn)), some (.int (nI kn)), some (.int (nI (mv (A.1.1 3) (nbL A.1) bn (ps (A.1.1 3) (nbL A.1) bn an n)))), some (.int (nI n))]) dX6_leaps_89 (by decide) rfl rfl ?_
                    refine J_iinc C (v := nI (n + 1)) (L' := [some (.ref (Z.2.1 0)), some (.int (nI an)), some (.int (nI bn)), some (.int (nI kn)), some (.int (nI (mv (A.1.1 3) (nbL A.1) bn (ps (A.1.1 3) (nbL A.1) bn an n)))), some (.int (nI (n + 1)))]) dX6_leaps_91 rfl (nI_1 _) (by decide) rfl rfl ?_
                    refine J_goto (tgt := 77) C dX6_leaps_94 (by decide) ?_
                    refine J_drop ?_ (ih77 (n + 1) (by omega) (by omega))
                    exact ⟨rfl, rfl, rfl, rfl, by rw [show ps (A.1.1 3) (nbL A.1) bn an (n + 1) = mv (A.1.1 3) (nbL A.1) bn (ps (A.1.1 3) (nbL A.1) bn an n) from nbL_mv (show 2 ≤ FLp A.1 bn (ps (A.1.1 3) (nbL A.1) bn an n) by omega)], rfl, trivial⟩
              refine J_drop ?_ (lp77 (kn + 1) 0 (by omega) (by omega))
              exact ⟨rfl, rfl, rfl, rfl, rfl, rfl, trivial⟩
            · skip
              refine J_bipush C (v := (-9)) dX6_leaps_68 (by decide) ?_
              exact E dX6_leaps_70 (⟨by rw [R_leaps, if_pos c5, if_pos c13, if_pos c24, tan, tbn]; exact (by rw [ekn, tnk, if_neg (show ¬ (kn : Int) < 0 by omega), if_neg (show ¬ kn + 1 ≤ FLp A.1 bn an by omega)]), hf32.abs hA⟩)
          · skip
            refine J_aload_n C dX6_leaps_51 rfl rfl ?_
            refine G6_left C wd_4_8 dX6_leaps_52 ?_
            refine J_iload_n C dX6_leaps_55 rfl rfl ?_
            refine LM_left C (v := less1 (FLp A.1 bn an)) (by omega) (hF32 an (by omega)) dX6_leaps_56 ?_
            exact E dX6_leaps_57 (⟨by rw [R_leaps, if_pos c5, if_pos c13, if_pos c24, tan, tbn]; exact lm_b (nI_neg c24.1 c37) c48, hf32.abs hA⟩)
      · skip
        refine J_bipush C (v := (-2)) dX6_leaps_27 (by decide) ?_
        exact E dX6_leaps_29 (⟨by rw [R_leaps, if_pos c5, if_pos c13, if_neg c24], hA⟩)
    · skip
      refine J_iconst C (v := (-1)) dX6_leaps_16 (by decide) ?_
      exact E dX6_leaps_17 (⟨by rw [R_leaps, if_pos c5, if_neg c13], hA⟩)
def rm_X6_findTides : Room := ({ frames := 1, cells := 0, slots := 0, locals := 25 })
set_option maxRecDepth 20000 in
theorem c_X6_findTides (l : Launch) (Z : EC) (x : Mt) (a : SA) (hr : MdR x a) (ok : SOK a) (kd g : Nat) (hkd : kd ≤ 2) (hg : g < a.1 3) : MIv l Z (wM Z) yX6_findTides cX6_findTides 6 rm_X6_findTides [.ref (Z.2.1 0), .int (nI (stp (a.1 0) kd)), .int (nI g)] x (fun x1 => F28 x x1 ∧ FM x1 (a.1 3) (FTd a kd g)) := by
  obtain ⟨ok0, ok1, ok2, ok3, ok4, ok5, ok6, ok7⟩ := id ok
  have hs1 := ok7 (by omega)
  have hst := stp_le (k := kd) ok0
  refine MIv_of (own := RX6) (L0 := [some (.ref (Z.2.1 0)), some (.int (nI (stp (a.1 0) kd))), some (.int (nI g)), none, none, none]) (by decide) rfl (Nat.le_of_ble_eq_true rfl) ⟨rfl, rfl, rfl, trivial⟩ ?_
  intro Γ C E
  refine J_iconst C (v := nI 0) dX6_findTides_0 (by decide) ?_
  refine J_istore_n C (L' := [some (.ref (Z.2.1 0)), some (.int (nI (stp (a.1 0) kd))), some (.int (nI g)), some (.int (nI 0)), none, none]) dX6_findTides_1 rfl (by decide) rfl rfl ?_
  have lp2 : ∀ (f : Nat) (i : Nat) (y : Mt), (i ≤ a.1 3) → (F28 x y) → (∀ j, j < i → y.2 28 j = less1 (fl 10 (nbT a kd) g 0 j)) → (a.1 3 - i < f) →  J Γ y 2 [some (.ref (Z.2.1 0)), some (.int (nI (stp (a.1 0) kd))), some (.int (nI g)), some (.int (nI i)), none, none] [] := by
    intro f
    induction f with
    | zero =>
      intro i y hi hyf hyi hf
      omega
    | succ f ih2 =>
      intro i y hi hyf hyi hf
      refine J_iload_n C dX6_findTides_2 rfl rfl ?_
      refine J_aload_n C dX6_findTides_3 rfl rfl ?_
      refine G6n_pools (hyf.md hr) C wd_10_18 dX6_findTides_4 ?_
      refine J_icmp_ge_n C (tgt := 33) dX6_findTides_7 (by decide) (by omega) (by omega) (fun c7 => ?_) (fun c7 => ?_)
      · skip
        refine J_iconst C (v := nI 0) dX6_findTides_33 (by decide) ?_
        refine J_istore_n C (L' := [some (.ref (Z.2.1 0)), some (.int (nI (stp (a.1 0) kd))), some (.int (nI g)), some (.int (nI 0)), none, none]) dX6_findTides_34 rfl (by decide) rfl rfl ?_
        have lp35 : ∀ (f : Nat) (k : Nat) (y : Mt), (k ≤ 6) → (F28 x y) → (FM y (a.1 3) (fl 10 (nbT a kd) g k)) → (6 - k < f) →  J Γ y 35 [some (.ref (Z.2.1 0)), some (.int (nI (stp (a.1 0) kd))), some (.int (nI g)), some (.int (nI k)), none, none] [] := by
          intro f
          induction f with
          | zero =>
            intro k y hk hyf hya hf2
            omega
          | succ f ih35 =>
            intro k y hk hyf hya hf2
            refine J_iload_n C dX6_findTides_35 rfl rfl ?_
            refine J_bipush C (v := nI 6) dX6_findTides_36 (by decide) ?_
            refine J_icmp_ge_n C (tgt := 126) dX6_findTides_38 (by decide) (by omega) (by omega) (fun c38 => ?_) (fun c38 => ?_)
            · skip
              exact E dX6_findTides_126 (⟨hyf, fun q hq => by have h9 := hya q hq; rw [show k = 6 by omega] at h9; exact h9⟩)
            · skip
              refine J_iconst C (v := nI 0) dX6_findTides_41 (by decide) ?_
              refine J_istore C (L' := [some (.ref (Z.2.1 0)), some (.int (nI (stp (a.1 0) kd))), some (.int (nI g)), some (.int (nI k)), some (.int (nI 0)), none]) dX6_findTides_42 (by decide) rfl rfl ?_
              have lp44 : ∀ (f : Nat) (p : Nat) (y : Mt), (p ≤ a.1 3) → (F28 x y) → (FM y (a.1 3) (mix 10 (nbT a kd) g k p)) → (a.1 3 - p < f) →  J Γ y 44 [some (.ref (Z.2.1 0)), some (.int (nI (stp (a.1 0) kd))), some (.int (nI g)), some (.int (nI k)), some (.int (nI p)), none] [] := by
                intro f
                induction f with
                | zero =>
                  intro p y hp hyf hyb hf3
                  omega
                | succ f ih44 =>
                  intro p y hp hyf hyb hf3
                  refine J_iload C dX6_findTides_44 rfl ?_
                  refine J_aload_n C dX6_findTides_46 rfl rfl ?_
                  refine G6n_pools (hyf.md hr) C wd_10_18 dX6_findTides_47 ?_
                  refine J_icmp_ge_n C (tgt := 120) dX6_findTides_50 (by decide) (by omega) (by omega) (fun c50 => ?_) (fun c50 => ?_)
                  · skip
                    refine J_iinc C (v := nI (k + 1)) (L' := [some (.ref (Z.2.1 0)), some (.int (nI (stp (a.1 0) kd))), some (.int (nI g)), some (.int (nI (k + 1))), some (.int (nI p)), none]) dX6_findTides_120 rfl (nI_1 _) (by decide) rfl rfl ?_
                    refine J_goto (tgt := 35) C dX6_findTides_123 (by decide) ?_
                    refine J_drop ?_ (ih35 (k + 1) y (by omega) hyf (fm_next ((show p = a.1 3 by omega) ▸ hyb)) (by omega))
                    exact ⟨rfl, rfl, rfl, rfl, trivial⟩
                  · skip
                    refine J_iconst C (v := nI 0) dX6_findTides_53 (by decide) ?_
                    refine J_istore C (L' := [some (.ref (Z.2.1 0)), some (.int (nI (stp (a.1 0) kd))), some (.int (nI g)), some (.int (nI k)), some (.int (nI p)), some (.int (nI 0))]) dX6_findTides_54 (by decide) rfl rfl ?_
                    have lp56 : ∀ (f : Nat) (b : Nat) (y : Mt), (b ≤ 10) → (F28 x y) → (FM y (a.1 3) (mid 10 (nbT a kd) g k p b)) → (10 - b < f) →  J Γ y 56 [some (.ref (Z.2.1 0)), some (.int (nI (stp (a.1 0) kd))), some (.int (nI g)), some (.int (nI k)), some (.int (nI p)), some (.int (nI b))] [] := by
                      intro f
                      induction f with
                      | zero =>
                        intro b y hb hyf hyc hf4
                        omega
                      | succ f ih56 =>
                        intro b y hb hyf hyc hf4
                        refine J_iload C dX6_findTides_56 rfl ?_
                        refine J_bipush C (v := nI 10) dX6_findTides_58 (by decide) ?_
                        refine J_icmp_ge_n C (tgt := 114) dX6_findTides_60 (by decide) (by omega) (by omega) (fun c60 => ?_) (fun c60 => ?_)
                        · skip
                          refine J_iinc C (v := nI (p + 1)) (L' := [some (.ref (Z.2.1 0)), some (.int (nI (stp (a.1 0) kd))), some (.int (nI g)), some (.int (nI k)), some (.int (nI (p + 1))), some (.int (nI b))]) dX6_findTides_114 rfl (nI_1 _) (by decide) rfl rfl ?_
                          refine J_goto (tgt := 44) C dX6_findTides_117 (by decide) ?_
                          refine J_drop ?_ (ih44 (p + 1) y (by omega) hyf (fm_outA hyc (by omega) (by omega)) (by omega))
                          exact ⟨rfl, rfl, rfl, rfl, rfl, trivial⟩
                        · skip
                          refine J_aload_n C dX6_findTides_63 rfl rfl ?_
                          refine G6_left C wd_4_8 dX6_findTides_64 ?_
                          refine J_iload C dX6_findTides_67 rfl ?_
                          refine LM_left C (v := less1 (mid 10 (nbT a kd) g k p b p)) (by omega) (hyc p (by omega)) dX6_findTides_69 ?_
                          refine J_bipush C (v := (-9)) dX6_findTides_70 (by decide) ?_
                          refine J_icmp_ne C (tgt := 114) dX6_findTides_72 (by decide) (fun c72 => ?_) (fun c72 => ?_)
                          · skip
                            refine J_iinc C (v := nI (p + 1)) (L' := [some (.ref (Z.2.1 0)), some (.int (nI (stp (a.1 0) kd))), some (.int (nI g)), some (.int (nI k)), some (.int (nI (p + 1))), some (.int (nI b))]) dX6_findTides_114 rfl (nI_1 _) (by decide) rfl rfl ?_
                            refine J_goto (tgt := 44) C dX6_findTides_117 (by decide) ?_
                            refine J_drop ?_ (ih44 (p + 1) y (by omega) hyf (fm_outB hyc (fun e => c72 ((less1_9 (by have := mid_le (M := 10) (nb := (nbT a kd)) (g := g) (k := k) (p := p) (b := b)  p; omega)).mpr e)) (by omega)) (by omega))
                            exact ⟨rfl, rfl, rfl, rfl, rfl, trivial⟩
                          · skip
                            have hm0 : mid 10 (nbT a kd) g k p b p = 0 := less1_eq c72 (by have := mid_le (M := 10) (nb := (nbT a kd)) (g := g) (k := k) (p := p) (b := b)  p; omega)
                            refine J_aload_n C dX6_findTides_75 rfl rfl ?_
                            refine G6_left C wd_4_8 dX6_findTides_76 ?_
                            refine J_iload C dX6_findTides_79 rfl ?_
                            refine J_aload_n C dX6_findTides_81 rfl rfl ?_
                            refine G6_left C wd_4_8 dX6_findTides_82 ?_
                            refine J_aload_n C dX6_findTides_85 rfl rfl ?_
                            refine J_iload C dX6_findTides_86 rfl ?_
                            refine J_iload_n C dX6_findTides_88 rfl rfl ?_
                            refine J_iload C dX6_findTides_89 rfl ?_
                            refine J_callVi C (q0 := 0) (ci := 6) (N := 33) (As := [.int (nI p), .int (nI (stp (a.1 0) kd)), .int (nI b)]) (c_X6_carriedFrom l Z _ a (hyf.md hr) ok p (stp (a.1 0) kd) b (show p < a.1 3 by omega) hst (by omega)) cw_RX6_166 wd_18_8 wd_18_9 rfl rfl rfl rfl (Nat.le_of_ble_eq_true rfl) rfl rfl (Nat.le_of_ble_eq_true rfl) (Nat.le_of_ble_eq_true rfl) dX6_findTides_91 (fun r91 x91 hp91 => ?_)
                            obtain ⟨hv91, rfl⟩ := hp91
                            have hv91 : r91 = nI (nbT a kd p b) := hv91
                            subst hv91
                            have hnl : nbT a kd p b < a.1 3 := carry_lt (show p < a.1 3 by omega)
                            refine LM_left C (v := less1 (mid 10 (nbT a kd) g k p b (nbT a kd p b))) (by omega) (hyc _ hnl) dX6_findTides_94 ?_
                            refine J_iload_n C dX6_findTides_95 rfl rfl ?_
                            refine J_icmp_ne C (tgt := 105) dX6_findTides_96 (by decide) (fun c96 => ?_) (fun c96 => ?_)
                            · skip
                              refine J_bipush C (v := (-9)) dX6_findTides_105 (by decide) ?_
                              refine SM_left C (by omega) dX6_findTides_107 ?_
                              refine J_iinc C (v := nI (b + 1)) (L' := [some (.ref (Z.2.1 0)), some (.int (nI (stp (a.1 0) kd))), some (.int (nI g)), some (.int (nI k)), some (.int (nI p)), some (.int (nI (b + 1)))]) dX6_findTides_108 rfl (nI_1 _) (by decide) rfl rfl ?_
                              refine J_goto (tgt := 56) C dX6_findTides_111 (by decide) ?_
                              refine J_drop ?_ (ih56 (b + 1) (mA y 28 (upd (y.2 28) p (-9))) (by omega) (hyf.tr F28.arr) (fm_set hyc (mid_no hm0 (fun e => c96 ((less1_d (by have := mid_le (M := 10) (nb := nbT a kd) (g := g) (k := k) (p := p) (b := b) (nbT a kd p b); omega) (by omega)).mpr ((mid_lab hm0).mpr e)))) rfl) (by omega))
                              exact ⟨rfl, rfl, rfl, rfl, rfl, rfl, trivial⟩
                            · skip
                              refine J_iload_n C dX6_findTides_99 rfl rfl ?_
                              refine J_iconst C (v := nI 1) dX6_findTides_100 (by decide) ?_
                              refine J_iadd C (v := nI (k + 1)) dX6_findTides_101 (nI_add _ _) ?_
                              refine J_goto (tgt := 107) C dX6_findTides_102 (by decide) ?_
                              refine SM_left C (by omega) dX6_findTides_107 ?_
                              refine J_iinc C (v := nI (b + 1)) (L' := [some (.ref (Z.2.1 0)), some (.int (nI (stp (a.1 0) kd))), some (.int (nI g)), some (.int (nI k)), some (.int (nI p)), some (.int (nI (b + 1)))]) dX6_findTides_108 rfl (nI_1 _) (by decide) rfl rfl ?_
                              refine J_goto (tgt := 56) C dX6_findTides_111 (by decide) ?_
                              refine J_drop ?_ (ih56 (b + 1) (mA y 28 (upd (y.2 28) p (nI (k + 1)))) (by omega) (hyf.tr F28.arr) (fm_set hyc (mid_yes hm0 ((mid_lab hm0).mp ((less1_d (by have := mid_le (M := 10) (nb := nbT a kd) (g := g) (k := k) (p := p) (b := b) (nbT a kd p b); omega) (by omega)).mp c96))) rfl) (by omega))
                              exact ⟨rfl, rfl, rfl, rfl, rfl, rfl, trivial⟩
                    refine J_drop ?_ (lp56 (10 + 1) 0 y (by omega) hyf (fm_in hyb) (by omega))
                    exact ⟨rfl, rfl, rfl, rfl, rfl, rfl, trivial⟩
              refine J_drop ?_ (lp44 (a.1 3 + 1) 0 y (by omega) hyf (fm_round hya) (by omega))
              exact ⟨rfl, rfl, rfl, rfl, rfl, trivial⟩
        refine J_drop ?_ (lp35 (6 + 1) 0 y (by omega) hyf (fun q hq => hyi q (by omega)) (by omega))
        exact ⟨rfl, rfl, rfl, rfl, trivial⟩
      · skip
        refine J_aload_n C dX6_findTides_10 rfl rfl ?_
        refine G6_left C wd_4_8 dX6_findTides_11 ?_
        refine J_iload_n C dX6_findTides_14 rfl rfl ?_
        refine J_iload_n C dX6_findTides_15 rfl rfl ?_
        refine J_iload_n C dX6_findTides_16 rfl rfl ?_
        refine J_icmp_ne_n C (tgt := 24) dX6_findTides_17 (by decide) (by omega) (by omega) (fun c17 => ?_) (fun c17 => ?_)
        · skip
          refine J_bipush C (v := (-9)) dX6_findTides_24 (by decide) ?_
          refine SM_left C (by omega) dX6_findTides_26 ?_
          refine J_iinc C (v := nI (i + 1)) (L' := [some (.ref (Z.2.1 0)), some (.int (nI (stp (a.1 0) kd))), some (.int (nI g)), some (.int (nI (i + 1))), none, none]) dX6_findTides_27 rfl (nI_1 _) (by decide) rfl rfl ?_
          refine J_goto (tgt := 2) C dX6_findTides_30 (by decide) ?_
          refine J_drop ?_ (ih2 (i + 1) (mA y 28 (upd (y.2 28) i (-9))) (by omega) (hyf.tr F28.arr) (fm_start hyi (by rw [show fl 10 (nbT a kd) g 0 i = 0 from if_neg c17]; rfl)) (by omega))
          exact ⟨rfl, rfl, rfl, rfl, trivial⟩
        · skip
          refine J_iconst C (v := nI 0) dX6_findTides_20 (by decide) ?_
          refine J_goto (tgt := 26) C dX6_findTides_21 (by decide) ?_
          refine SM_left C (by omega) dX6_findTides_26 ?_
          refine J_iinc C (v := nI (i + 1)) (L' := [some (.ref (Z.2.1 0)), some (.int (nI (stp (a.1 0) kd))), some (.int (nI g)), some (.int (nI (i + 1))), none, none]) dX6_findTides_27 rfl (nI_1 _) (by decide) rfl rfl ?_
          refine J_goto (tgt := 2) C dX6_findTides_30 (by decide) ?_
          refine J_drop ?_ (ih2 (i + 1) (mA y 28 (upd (y.2 28) i (nI 0))) (by omega) (hyf.tr F28.arr) (fm_start hyi (by rw [show fl 10 (nbT a kd) g 0 i = 1 from if_pos c17]; rfl)) (by omega))
          exact ⟨rfl, rfl, rfl, rfl, trivial⟩
  refine J_drop ?_ (lp2 (a.1 3 + 1) 0 x (by omega) F28.rf (fun j hj => absurd hj (Nat.not_lt_zero j)) (by omega))
  exact ⟨rfl, rfl, rfl, rfl, trivial⟩
def rm_X6_nextTide : Room := ({ frames := 1, cells := 0, slots := 0, locals := 25 })
set_option maxRecDepth 20000 in
theorem c_X6_nextTide (l : Launch) (Z : EC) (x : Mt) (a : SA) (hr : MdR x a) (ok : SOK a) (kd g p : Nat) (hkd : kd ≤ 2) (hp : p < a.1 3) (h2 : 2 ≤ FTd a kd g p) (hF : FM x (a.1 3) (FTd a kd g)) : MIi l Z (wM Z) yX6_nextTide cX6_nextTide 4 rm_X6_nextTide [.ref (Z.2.1 0), .int (nI p), .int (nI (stp (a.1 0) kd))] x (fun r x1 => r = nI (mv 10 (nbT a kd) g p) ∧ x = x1) := by
  obtain ⟨ok0, ok1, ok2, ok3, ok4, ok5, ok6, ok7⟩ := id ok
  have hs1 := ok7 (by omega)
  have hst := stp_le (k := kd) ok0
  have hmv := mv_lt (M := 10) (nb := nbT a kd) (g := g) (q := p) h2
  have hfl : ∀ q, FTd a kd g q ≤ 7 := fun q => fl_le 6 q
  refine MIi_of (own := RX6) (L0 := [some (.ref (Z.2.1 0)), some (.int (nI p)), some (.int (nI (stp (a.1 0) kd))), none]) (by decide) rfl (Nat.le_of_ble_eq_true rfl) ⟨rfl, rfl, rfl, trivial⟩ ?_
  intro Γ C E
  refine J_iconst C (v := nI 0) dX6_nextTide_0 (by decide) ?_
  refine J_istore_n C (L' := [some (.ref (Z.2.1 0)), some (.int (nI p)), some (.int (nI (stp (a.1 0) kd))), some (.int (nI 0))]) dX6_nextTide_1 rfl (by decide) rfl rfl ?_
  have lp2 : ∀ (f : Nat) (b : Nat), (¬ fst (fun m => FTd a kd g (nbT a kd p m) == FTd a kd g p - 1) b < b) → (mv 10 (nbT a kd) g p + 1 - b < f) →  J Γ x 2 [some (.ref (Z.2.1 0)), some (.int (nI p)), some (.int (nI (stp (a.1 0) kd))), some (.int (nI b))] [] := by
    intro f
    induction f with
    | zero =>
      intro b hv hf
      omega
    | succ f ih2 =>
      intro b hv hf
      have hbd : b ≤ mv 10 (nbT a kd) g p := fst_bd hmv hv
      have hfp := hfl p
      have hfb := hfl (nbT a kd p b)
      refine J_aload_n C dX6_nextTide_2 rfl rfl ?_
      refine G6_left C wd_4_8 dX6_nextTide_3 ?_
      refine J_aload_n C dX6_nextTide_6 rfl rfl ?_
      refine J_iload_n C dX6_nextTide_7 rfl rfl ?_
      refine J_iload_n C dX6_nextTide_8 rfl rfl ?_
      refine J_iload_n C dX6_nextTide_9 rfl rfl ?_
      refine J_callVi C (q0 := 0) (ci := 6) (N := 33) (As := [.int (nI p), .int (nI (stp (a.1 0) kd)), .int (nI b)]) (c_X6_carriedFrom l Z _ a hr ok p (stp (a.1 0) kd) b hp hst (by omega)) cw_RX6_166 wd_18_8 wd_18_9 rfl rfl rfl rfl (Nat.le_of_ble_eq_true rfl) rfl rfl (Nat.le_of_ble_eq_true rfl) (Nat.le_of_ble_eq_true rfl) dX6_nextTide_10 (fun r10 x10 hp10 => ?_)
      obtain ⟨hv10, rfl⟩ := hp10
      have hv10 : r10 = nI (nbT a kd p b) := hv10
      subst hv10
      have hnl : nbT a kd p b < a.1 3 := carry_lt hp
      refine LM_left C (v := less1 (FTd a kd g (nbT a kd p b))) (by omega) (hF _ hnl) dX6_nextTide_13 ?_
      refine J_aload_n C dX6_nextTide_14 rfl rfl ?_
      refine G6_left C wd_4_8 dX6_nextTide_15 ?_
      refine J_iload_n C dX6_nextTide_18 rfl rfl ?_
      refine LM_left C (v := nI (FTd a kd g p - 1)) (by omega) ((hF p (by omega)).trans (if_neg (by omega))) dX6_nextTide_19 ?_
      refine J_iconst C (v := nI 1) dX6_nextTide_20 (by decide) ?_
      refine J_isub C (v := nI ((FTd a kd g p - 1) - 1)) dX6_nextTide_21 (pk_sub (a := FTd a kd g p - 1) (b := 1) (by omega)) ?_
      refine J_icmp_eq C (tgt := 31) dX6_nextTide_22 (by decide) (fun c22 => ?_) (fun c22 => ?_)
      · skip
        refine J_iload_n C dX6_nextTide_31 rfl rfl ?_
        exact E dX6_nextTide_32 (⟨congrArg nI (fst_hit hv (by have h9 : FTd a kd g (nbT a kd p b) = FTd a kd g p - 1 := (by have := (less1_d (by omega) (by omega)).mp c22; omega); simpa using h9) (by omega)).symm, rfl⟩)
      · skip
        refine J_iinc C (v := nI (b + 1)) (L' := [some (.ref (Z.2.1 0)), some (.int (nI p)), some (.int (nI (stp (a.1 0) kd))), some (.int (nI (b + 1)))]) dX6_nextTide_25 rfl (nI_1 _) (by decide) rfl rfl ?_
        refine J_goto (tgt := 2) C dX6_nextTide_28 (by decide) ?_
        refine J_drop ?_ (ih2 (b + 1) (fst_go hv (by have h9 : ¬ FTd a kd g (nbT a kd p b) = FTd a kd g p - 1 := fun e => c22 ((less1_d (by omega) (by omega)).mpr (by omega)); simpa using h9)) (by omega))
        exact ⟨rfl, rfl, rfl, rfl, trivial⟩
  refine J_drop ?_ (lp2 (mv 10 (nbT a kd) g p + 2) 0 (Nat.not_lt_zero _) (by omega))
  exact ⟨rfl, rfl, rfl, rfl, trivial⟩
def rm_X6_elect : Room := ({ frames := 2, cells := 0, slots := 0, locals := 50 })
set_option maxRecDepth 20000 in
theorem c_X6_elect (l : Launch) (Z : EC) (x : Mt) (A : AB) (hA : AbsM x A) (hk : AOK A) (m q k : Int32) : MIi l Z (wM Z) yX6_elect cX6_elect 8 rm_X6_elect [.ref (Z.2.1 0), .int m, .int q, .int k] x (fun r x1 => r = R_elect A m q k ∧ AbsM x1 A) := by
  obtain ⟨hr, hH, hR, hT, hF⟩ := id hA
  obtain ⟨ok, hkH, hkR, hkr⟩ := id hk
  obtain ⟨ok0, ok1, ok2, ok3, ok4, ok5, ok6, ok7⟩ := id ok
  refine MIi_of (own := RX6) (L0 := [some (.ref (Z.2.1 0)), some (.int m), some (.int q), some (.int k), none, none, none, none]) (by decide) rfl (Nat.le_of_ble_eq_true rfl) ⟨rfl, rfl, rfl, rfl, trivial⟩ ?_
  intro Γ C E
  refine J_aload_n C dX6_elect_0 rfl rfl ?_
  refine J_iload_n C dX6_elect_1 rfl rfl ?_
  refine J_callVz C (q0 := 0) (ci := 6) (N := 33) (As := [.int m]) (c_X6_isMember l Z _ A.1 hr ok _) cw_RX6_154 wd_13_14 wd_13_15 rfl rfl rfl rfl (Nat.le_of_ble_eq_true rfl) rfl rfl (Nat.le_of_ble_eq_true rfl) (Nat.le_of_ble_eq_true rfl) dX6_elect_2 (fun b2 x2 hp2 => ?_)
  obtain ⟨rfl, rfl⟩ := hp2
  refine J_if_eq_d C (tgt := 16) dX6_elect_5 (by decide) (fun c5 => ?_) (fun c5 => ?_)
  · skip
    refine J_iconst C (v := (-1)) dX6_elect_16 (by decide) ?_
    exact E dX6_elect_17 (⟨by rw [R_elect, if_neg c5], hA⟩)
  · skip
    obtain ⟨mn, hmn, rfl⟩ := rng_nat c5
    have tnm := tn_nI (n := mn) (by omega)
    have gm := ok6 mn hmn
    have hs1 := ok7 (by omega)
    have hst := stp_le (k := A.1.2 2 mn) ok0
    refine J_aload_n C dX6_elect_8 rfl rfl ?_
    refine J_iload_n C dX6_elect_9 rfl rfl ?_
    refine J_callVz C (q0 := 0) (ci := 6) (N := 33) (As := [.int q]) (c_X6_isPool l Z _ A.1 hr ok _) cw_RX6_145 wd_12_8 wd_12_9 rfl rfl rfl rfl (Nat.le_of_ble_eq_true rfl) rfl rfl (Nat.le_of_ble_eq_true rfl) (Nat.le_of_ble_eq_true rfl) dX6_elect_10 (fun b10 x10 hp10 => ?_)
    obtain ⟨rfl, rfl⟩ := hp10
    refine J_if_ne_d C (tgt := 18) dX6_elect_13 (by decide) (fun c13 => ?_) (fun c13 => ?_)
    · skip
      obtain ⟨qn, hqn, rfl⟩ := rng_nat c13
      have tqn := tn_nI (n := qn) (by omega)
      refine J_iload_n C dX6_elect_18 rfl rfl ?_
      refine J_iconst C (v := (-1)) dX6_elect_19 (by decide) ?_
      refine J_iconst C (v := nI 4) dX6_elect_20 (by decide) ?_
      refine J_callSz C (As := [.int k, .int (-1), .int (nI 4)]) (c_X6_within l Z _ _ _ _ (-1) (4) (by decide) (by decide)) cw_RX6_70 wd_8_21 rfl rfl (Nat.le_of_ble_eq_true rfl) rfl rfl (Nat.le_of_ble_eq_true rfl) (Nat.le_of_ble_eq_true rfl) dX6_elect_21 (fun b21 x21 hp21 => ?_)
      obtain ⟨rfl, rfl⟩ := hp21
      refine J_if_ne_d C (tgt := 30) dX6_elect_24 (by decide) (fun c24 => ?_) (fun c24 => ?_)
      · skip
        refine J_aload_n C dX6_elect_30 rfl rfl ?_
        refine J_iload_n C dX6_elect_31 rfl rfl ?_
        refine J_callVi C (q0 := 0) (ci := 6) (N := 33) (As := [.int (nI mn)]) (c_X6_farOf l Z _ A.1 hr ok _ hmn) cw_RX6_157 wd_13_18 wd_13_19 rfl rfl rfl rfl (Nat.le_of_ble_eq_true rfl) rfl rfl (Nat.le_of_ble_eq_true rfl) (Nat.le_of_ble_eq_true rfl) dX6_elect_32 (fun r32 x32 hp32 => ?_)
        obtain ⟨rfl, rfl⟩ := hp32
        refine J_istore C (L' := [some (.ref (Z.2.1 0)), some (.int (nI mn)), some (.int (nI qn)), some (.int k), some (.int (nI (stp (A.1.1 0) (A.1.2 2 mn)))), none, none, none]) dX6_elect_35 (by decide) rfl rfl ?_
        refine J_aload_n C dX6_elect_37 rfl rfl ?_
        refine J_iload C dX6_elect_38 rfl ?_
        refine J_iload_n C dX6_elect_40 rfl rfl ?_
        refine J_callVv C (q0 := 0) (ci := 6) (N := 33) (As := [.int (nI (stp (A.1.1 0) (A.1.2 2 mn))), .int (nI qn)]) (c_X6_findTides l Z _ A.1 hr ok (A.1.2 2 mn) _ gm.1 hqn) cw_RX6_208 wd_28_17 wd_28_18 rfl rfl rfl rfl (Nat.le_of_ble_eq_true rfl) rfl rfl (Nat.le_of_ble_eq_true rfl) (Nat.le_of_ble_eq_true rfl) dX6_elect_41 (fun x41 hp41 => ?_)
        obtain ⟨hf41, hF41⟩ := hp41
        have hfl : FTd A.1 (A.1.2 2 mn) qn (A.1.2 3 mn) ≤ 7 := fl_le 6 _
        refine J_aload_n C dX6_elect_44 rfl rfl ?_
        refine G6_poolOf C wd_4_0 dX6_elect_45 ?_
        refine J_iload_n C dX6_elect_48 rfl rfl ?_
        refine LMn_poolOf (hf41.md hr) ok C (by omega) dX6_elect_49 ?_
        refine J_istore C (L' := [some (.ref (Z.2.1 0)), some (.int (nI mn)), some (.int (nI qn)), some (.int k), some (.int (nI (stp (A.1.1 0) (A.1.2 2 mn)))), some (.int (nI (A.1.2 3 mn))), none, none]) dX6_elect_50 (by decide) rfl rfl ?_
        refine J_iload_n C dX6_elect_52 rfl rfl ?_
        refine J_iconst C (v := (-1)) dX6_elect_53 (by decide) ?_
        refine J_icmp_eq C (tgt := 69) dX6_elect_54 (by decide) (fun c54 => ?_) (fun c54 => ?_)
        · skip
          refine J_aload_n C dX6_elect_69 rfl rfl ?_
          refine G6_left C wd_4_8 dX6_elect_70 ?_
          refine J_iload C dX6_elect_73 rfl ?_
          refine LM_left C (v := less1 (FTd A.1 (A.1.2 2 mn) qn (A.1.2 3 mn))) (by omega) (hF41 _ gm.2.1) dX6_elect_75 ?_
          exact E dX6_elect_76 (⟨by rw [R_elect, if_pos c5, if_pos c13, if_pos c24, tnm, tqn]; exact (if_pos (neg1 c54)).symm, hf41.abs hA⟩)
        · skip
          refine J_aload_n C dX6_elect_57 rfl rfl ?_
          refine G6_left C wd_4_8 dX6_elect_58 ?_
          refine J_iload C dX6_elect_61 rfl ?_
          refine LM_left C (v := less1 (FTd A.1 (A.1.2 2 mn) qn (A.1.2 3 mn))) (by omega) (hF41 _ gm.2.1) dX6_elect_63 ?_
          refine J_bipush C (v := (-9)) dX6_elect_64 (by decide) ?_
          refine J_icmp_ne C (tgt := 77) dX6_elect_66 (by decide) (fun c66 => ?_) (fun c66 => ?_)
          · skip
            have hF0 : FTd A.1 (A.1.2 2 mn) qn (A.1.2 3 mn) ≠ 0 := fun e => c66 (by rw [e]; rfl)
            obtain ⟨kn, k0, k5, rfl⟩ := rng_nat2 (q := k) (A := 0) (B := 4) ⟨nI_neg c24.1 c54, c24.2⟩
            have tnk := tn_nI (n := kn) (by omega)
            have ekn := nI_i (n := kn) (by omega)
            refine J_bipush C (v := (-9)) dX6_elect_77 (by decide) ?_
            refine J_istore C (L' := [some (.ref (Z.2.1 0)), some (.int (nI mn)), some (.int (nI qn)), some (.int (nI kn)), some (.int (nI (stp (A.1.1 0) (A.1.2 2 mn)))), some (.int (nI (A.1.2 3 mn))), some (.int (-9)), none]) dX6_elect_79 (by decide) rfl rfl ?_
            refine J_iconst C (v := nI 0) dX6_elect_81 (by decide) ?_
            refine J_istore C (L' := [some (.ref (Z.2.1 0)), some (.int (nI mn)), some (.int (nI qn)), some (.int (nI kn)), some (.int (nI (stp (A.1.1 0) (A.1.2 2 mn)))), some (.int (nI (A.1.2 3 mn))), some (.int (-9)), some (.int (nI 0))]) dX6_elect_82 (by decide) rfl rfl ?_
            have lp84 : ∀ (f : Nat) (n : Nat), (n ≤ kn + 1) → (kn + 1 - n < f) →  J Γ x41 84 [some (.ref (Z.2.1 0)), some (.int (nI mn)), some (.int (nI qn)), some (.int (nI kn)), some (.int (nI (stp (A.1.1 0) (A.1.2 2 mn)))), some (.int (nI (psE A.1 (A.1.2 2 mn) qn (A.1.2 3 mn) n))), some (.int (tdE A.1 (A.1.2 2 mn) qn (A.1.2 3 mn) n)), some (.int (nI n))] [] := by
              intro f
              induction f with
              | zero =>
                intro n hn hf
                omega
              | succ f ih84 =>
                intro n hn hf
                have hpl := psE_lt (n := n) hF0 gm.2.1
                refine J_iload C dX6_elect_84 rfl ?_
                refine J_iload_n C dX6_elect_86 rfl rfl ?_
                refine J_icmp_gt_n C (tgt := 141) dX6_elect_87 (by decide) (by omega) (by omega) (fun c87 => ?_) (fun c87 => ?_)
                · skip
                  refine J_iload C dX6_elect_141 rfl ?_
                  exact E dX6_elect_143 (⟨by rw [R_elect, if_pos c5, if_pos c13, if_pos c24, tnm, tqn]; exact (by rw [ekn, tnk, if_neg (show ¬ (kn : Int) < 0 by omega), show n = kn + 1 by omega]; rfl), hf41.abs hA⟩)
                · skip
                  refine J_iload C dX6_elect_90 rfl ?_
                  refine J_iload_n C dX6_elect_92 rfl rfl ?_
                  refine J_icmp_ne_n C (tgt := 101) dX6_elect_93 (by decide) (by omega) (by omega) (fun c93 => ?_) (fun c93 => ?_)
                  · skip
                    have hpn : ¬ FTd A.1 (A.1.2 2 mn) qn (A.1.2 3 mn) ≤ n + 1 := fun e => c93 ((psE_g hF0).mpr e)
                    have hpf := psE_fl (a := A.1) (kd := A.1.2 2 mn) (g := qn) (s := A.1.2 3 mn) (n := n) (by omega)
                    refine J_aload_n C dX6_elect_101 rfl rfl ?_
                    refine J_iload C dX6_elect_102 rfl ?_
                    refine J_iload C dX6_elect_104 rfl ?_
                    refine J_callVi C (q0 := 0) (ci := 6) (N := 33) (As := [.int (nI (psE A.1 (A.1.2 2 mn) qn (A.1.2 3 mn) n)), .int (nI (stp (A.1.1 0) (A.1.2 2 mn)))]) (c_X6_nextTide l Z _ A.1 (hf41.md hr) ok (A.1.2 2 mn) qn _ gm.1 hpl (by omega) hF41) cw_RX6_212 wd_28_21 wd_28_22 rfl rfl rfl rfl (Nat.le_of_ble_eq_true rfl) rfl rfl (Nat.le_of_ble_eq_true rfl) (Nat.le_of_ble_eq_true rfl) dX6_elect_106 (fun r106 x106 hp106 => ?_)
                    obtain ⟨rfl, rfl⟩ := hp106
                    have hmv : mv 10 (nbT A.1 (A.1.2 2 mn)) qn (psE A.1 (A.1.2 2 mn) qn (A.1.2 3 mn) n) < 10 := mv_lt (show 2 ≤ FTd A.1 (A.1.2 2 mn) qn (psE A.1 (A.1.2 2 mn) qn (A.1.2 3 mn) n) by omega)
                    refine J_istore C (L' := [some (.ref (Z.2.1 0)), some (.int (nI mn)), some (.int (nI qn)), some (.int (nI kn)), some (.int (nI (stp (A.1.1 0) (A.1.2 2 mn)))), some (.int (nI (psE A.1 (A.1.2 2 mn) qn (A.1.2 3 mn) n))), some (.int (nI (mv 10 (nbT A.1 (A.1.2 2 mn)) qn (psE A.1 (A.1.2 2 mn) qn (A.1.2 3 mn) n)))), some (.int (nI n))]) dX6_elect_109 (by decide) rfl rfl ?_
                    refine J_iload C dX6_elect_111 rfl ?_
                    refine J_bipush C (v := (-9)) dX6_elect_113 (by decide) ?_
                    refine J_icmp_ne C (tgt := 123) dX6_elect_115 (by decide) (fun c115 => ?_) (fun c115 => absurd c115 (nI_ne9 (by omega)))
                    refine J_aload_n C dX6_elect_123 rfl rfl ?_
                    refine J_iload C dX6_elect_124 rfl ?_
                    refine J_iload C dX6_elect_126 rfl ?_
                    refine J_iload C dX6_elect_128 rfl ?_
                    refine J_callVi C (q0 := 0) (ci := 6) (N := 33) (As := [.int (nI (psE A.1 (A.1.2 2 mn) qn (A.1.2 3 mn) n)), .int (nI (stp (A.1.1 0) (A.1.2 2 mn))), .int (nI (mv 10 (nbT A.1 (A.1.2 2 mn)) qn (psE A.1 (A.1.2 2 mn) qn (A.1.2 3 mn) n)))]) (c_X6_carriedFrom l Z _ A.1 (hf41.md hr) ok (psE A.1 (A.1.2 2 mn) qn (A.1.2 3 mn) n) (stp (A.1.1 0) (A.1.2 2 mn)) (mv 10 (nbT A.1 (A.1.2 2 mn)) qn (psE A.1 (A.1.2 2 mn) qn (A.1.2 3 mn) n)) hpl hst (by omega)) cw_RX6_166 wd_18_8 wd_18_9 rfl rfl rfl rfl (Nat.le_of_ble_eq_true rfl) rfl rfl (Nat.le_of_ble_eq_true rfl) (Nat.le_of_ble_eq_true rfl) dX6_elect_130 (fun r130 x130 hp130 => ?_)
                    obtain ⟨hv130, rfl⟩ := hp130
                    have hv130 : r130 = nI (nbT A.1 (A.1.2 2 mn) (psE A.1 (A.1.2 2 mn) qn (A.1.2 3 mn) n) (mv 10 (nbT A.1 (A.1.2 2 mn)) qn (psE A.1 (A.1.2 2 mn) qn (A.1.2 3 mn) n))) := hv130
                    subst hv130
                    refine J_istore C (L' := [some (.ref (Z.2.1 0)), some (.int (nI mn)), some (.int (nI qn)), some (.int (nI kn)), some (.int (nI (stp (A.1.1 0) (A.1.2 2 mn)))), some (.int (nI (nbT A.1 (A.1.2 2 mn) (psE A.1 (A.1.2 2 mn) qn (A.1.2 3 mn) n) (mv 10 (nbT A.1 (A.1.2 2 mn)) qn (psE A.1 (A.1.2 2 mn) qn (A.1.2 3 mn) n))))), some (.int (nI (mv 10 (nbT A.1 (A.1.2 2 mn)) qn (psE A.1 (A.1.2 2 mn) qn (A.1.2 3 mn) n)))), some (.int (nI n))]) dX6_elect_133 (by decide) rfl rfl ?_
                    refine J_iinc C (v := nI (n + 1)) (L' := [some (.ref (Z.2.1 0)), some (.int (nI mn)), some (.int (nI qn)), some (.int (nI kn)), some (.int (nI (stp (A.1.1 0) (A.1.2 2 mn)))), some (.int (nI (nbT A.1 (A.1.2 2 mn) (psE A.1 (A.1.2 2 mn) qn (A.1.2 3 mn) n) (mv 10 (nbT A.1 (A.1.2 2 mn)) qn (psE A.1 (A.1.2 2 mn) qn (A.1.2 3 mn) n))))), some (.int (nI (mv 10 (nbT A.1 (A.1.2 2 mn)) qn (psE A.1 (A.1.2 2 mn) qn (A.1.2 3 mn) n)))), some (.int (nI (n + 1)))]) dX6_elect_135 rfl (nI_1 _) (by decide) rfl rfl ?_
                    refine J_goto (tgt := 84) C dX6_elect_138 (by decide) ?_
                    refine J_drop ?_ (ih84 (n + 1) (by omega) (by omega))
                    exact ⟨rfl, rfl, rfl, rfl, rfl, by rw [psE_step (by omega)], by rw [tdE_mv (by omega)], rfl, trivial⟩
                  · skip
                    have hpn : FTd A.1 (A.1.2 2 mn) qn (A.1.2 3 mn) ≤ n + 1 := (psE_g hF0).mp c93
                    refine J_bipush C (v := (-9)) dX6_elect_96 (by decide) ?_
                    refine J_goto (tgt := 109) C dX6_elect_98 (by decide) ?_
                    refine J_istore C (L' := [some (.ref (Z.2.1 0)), some (.int (nI mn)), some (.int (nI qn)), some (.int (nI kn)), some (.int (nI (stp (A.1.1 0) (A.1.2 2 mn)))), some (.int (nI (psE A.1 (A.1.2 2 mn) qn (A.1.2 3 mn) n))), some (.int (-9)), some (.int (nI n))]) dX6_elect_109 (by decide) rfl rfl ?_
                    refine J_iload C dX6_elect_111 rfl ?_
                    refine J_bipush C (v := (-9)) dX6_elect_113 (by decide) ?_
                    refine J_icmp_ne C (tgt := 123) dX6_elect_115 (by decide) (fun c115 => absurd (by decide) c115) (fun c115 => ?_)
                    refine J_iload C dX6_elect_118 rfl ?_
                    refine J_goto (tgt := 133) C dX6_elect_120 (by decide) ?_
                    refine J_istore C (L' := [some (.ref (Z.2.1 0)), some (.int (nI mn)), some (.int (nI qn)), some (.int (nI kn)), some (.int (nI (stp (A.1.1 0) (A.1.2 2 mn)))), some (.int (nI (psE A.1 (A.1.2 2 mn) qn (A.1.2 3 mn) n))), some (.int (-9)), some (.int (nI n))]) dX6_elect_133 (by decide) rfl rfl ?_
                    refine J_iinc C (v := nI (n + 1)) (L' := [some (.ref (Z.2.1 0)), some (.int (nI mn)), some (.int (nI qn)), some (.int (nI kn)), some (.int (nI (stp (A.1.1 0) (A.1.2 2 mn)))), some (.int (nI (psE A.1 (A.1.2 2 mn) qn (A.1.2 3 mn) n))), some (.int (-9)), some (.int (nI (n + 1)))]) dX6_elect_135 rfl (nI_1 _) (by decide) rfl rfl ?_
                    refine J_goto (tgt := 84) C dX6_elect_138 (by decide) ?_
                    refine J_drop ?_ (ih84 (n + 1) (by omega) (by omega))
                    exact ⟨rfl, rfl, rfl, rfl, rfl, by rw [psE_stay hpn hF0], by rw [← tdE_no hpn], rfl, trivial⟩
            refine J_drop ?_ (lp84 (kn + 2) 0 (by omega) (by omega))
            exact ⟨rfl, rfl, rfl, rfl, rfl, by rw [psE_at (by omega)]; rfl, rfl, rfl, trivial⟩
          · skip
            refine J_aload_n C dX6_elect_69 rfl rfl ?_
            refine G6_left C wd_4_8 dX6_elect_70 ?_
            refine J_iload C dX6_elect_73 rfl ?_
            refine LM_left C (v := less1 (FTd A.1 (A.1.2 2 mn) qn (A.1.2 3 mn))) (by omega) (hF41 _ gm.2.1) dX6_elect_75 ?_
            exact E dX6_elect_76 (⟨by rw [R_elect, if_pos c5, if_pos c13, if_pos c24, tnm, tqn]; exact lm_c (nI_neg c24.1 c54) c66, hf41.abs hA⟩)
      · skip
        refine J_bipush C (v := (-2)) dX6_elect_27 (by decide) ?_
        exact E dX6_elect_29 (⟨by rw [R_elect, if_pos c5, if_pos c13, if_neg c24], hA⟩)
    · skip
      refine J_iconst C (v := (-1)) dX6_elect_16 (by decide) ?_
      exact E dX6_elect_17 (⟨by rw [R_elect, if_pos c5, if_neg c13], hA⟩)
