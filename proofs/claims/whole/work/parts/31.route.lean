def FRR (x y : St) : Prop := y.2.2 = x.2.2 ∧ (∀ i, i < 18 ∨ 21 ≤ i → y.1 i = x.1 i) ∧ (∀ i, i < 17 ∨ 25 ≤ i → y.2.1 i = x.2.1 i)
theorem FRR.rf {x : St} : FRR x x := ⟨rfl, fun _ _ => rfl, fun _ _ => rfl⟩
theorem FRR.tr {x y z : St} (h : FRR x y) (g : FRR y z) : FRR x z := ⟨g.1.trans h.1, fun i hi => (g.2.1 i hi).trans (h.2.1 i hi), fun i hi => (g.2.2 i hi).trans (h.2.2 i hi)⟩
theorem FRR.int {x : St} {i : Nat} {v : Int32} (h1 : 18 ≤ i) (h2 : i < 21) : FRR x (setI x i v) := ⟨rfl, fun j hj => sI_ne (by omega), fun _ _ => rfl⟩
theorem FRR.arr {x : St} {i : Nat} {f : Nat → Int32} (h1 : 17 ≤ i) (h2 : i < 25) : FRR x (setA x i f) := ⟨rfl, fun _ _ => rfl, fun j hj => sA_ne (by omega)⟩
theorem FRR.sh {x y : St} {w : Nat} {a : SA} (hf : FRR x y) (h : ShR x w a) : ShR y w a := h.same (fun i h1 h2 => hf.2.1 i (by omega)) (fun i h1 h2 => hf.2.2 i (by omega))
theorem FRR.abs {x y : St} {A : AB} (hf : FRR x y) (h : AbsC x A) : AbsC y A := by
  obtain ⟨⟨c1, c2, c3, c4⟩, h2, h3, h4, h5⟩ := h
  obtain ⟨f1, f2, f3⟩ := id hf
  refine ⟨⟨by rw [f1]; exact c1, by rw [f1]; exact c2, by rw [f1]; exact c3, ?_⟩, h2.same (fun i _ _ => f2 i (by omega)) (fun i _ _ => f3 i (by omega)), h3.same (f2 17 (by omega)) (fun i _ _ => f3 i (by omega)), (f2 0 (by omega)).trans h4, (f2 1 (by omega)).trans h5⟩
  rw [f1]
  exact hf.sh c4
def RT (x : St) (P M : Nat) (nb : Nat → Nat → Nat) : Prop := x.1 18 = nI P ∧ x.1 19 = nI M ∧ ∀ q, q < P → ∀ m, m < M → x.2.1 (17 + q) m = nI (nb q m)
def FA (x : St) (P : Nat) (ff : Nat → Nat) : Prop := ∀ q, q < P → x.2.1 23 q = less1 (ff q)
/-- only the array 23 is changed -/
def F23 (x y : St) : Prop := y.2.2 = x.2.2 ∧ y.1 = x.1 ∧ ∀ i, i ≠ 23 → y.2.1 i = x.2.1 i
theorem F23.rf {x : St} : F23 x x := ⟨rfl, rfl, fun _ _ => rfl⟩
theorem F23.tr {x y z : St} (h : F23 x y) (g : F23 y z) : F23 x z := ⟨g.1.trans h.1, g.2.1.trans h.2.1, fun i hi => (g.2.2 i hi).trans (h.2.2 i hi)⟩
theorem F23.arr {x : St} {f : Nat → Int32} : F23 x (setA x 23 f) := ⟨rfl, rfl, fun j hj => sA_ne hj⟩
theorem F23.r {x y : St} (h : F23 x y) : FRR x y := ⟨h.1, fun i _ => congrFun h.2.1 i, fun i hi => h.2.2 i (by omega)⟩
theorem F23.rt {x y : St} {P M : Nat} {nb : Nat → Nat → Nat} (h : F23 x y) (hR : RT x P M nb) (hP : P ≤ 6) : RT y P M nb := ⟨(congrFun h.2.1 18).trans hR.1, (congrFun h.2.1 19).trans hR.2.1, fun q hq m hm => (congrFun (h.2.2 (17 + q) (by omega)) m).trans (hR.2.2 q hq m hm)⟩
def F24 (x y : St) : Prop := y.2.2 = x.2.2 ∧ (∀ i, i ≠ 20 → y.1 i = x.1 i) ∧ ∀ i, i ≠ 24 → y.2.1 i = x.2.1 i
theorem F24.rf {x : St} : F24 x x := ⟨rfl, fun _ _ => rfl, fun _ _ => rfl⟩
theorem F24.tr {x y z : St} (h : F24 x y) (g : F24 y z) : F24 x z := ⟨g.1.trans h.1, fun i hi => (g.2.1 i hi).trans (h.2.1 i hi), fun i hi => (g.2.2 i hi).trans (h.2.2 i hi)⟩
theorem F24.arr {x : St} {f : Nat → Int32} : F24 x (setA x 24 f) := ⟨rfl, fun _ _ => rfl, fun j hj => sA_ne hj⟩
theorem F24.int {x : St} {v : Int32} : F24 x (setI x 20 v) := ⟨rfl, fun j hj => sI_ne hj, fun _ _ => rfl⟩
theorem F24.r {x y : St} (h : F24 x y) : FRR x y := ⟨h.1, fun i hi => h.2.1 i (by omega), fun i hi => h.2.2 i (by omega)⟩
theorem F24.rt {x y : St} {P M : Nat} {nb : Nat → Nat → Nat} (h : F24 x y) (hR : RT x P M nb) (hP : P ≤ 6) : RT y P M nb := ⟨(h.2.1 18 (by decide)).trans hR.1, (h.2.1 19 (by decide)).trans hR.2.1, fun q hq m hm => (congrFun (h.2.2 (17 + q) (by omega)) m).trans (hR.2.2 q hq m hm)⟩
theorem F24.fa {x y : St} {P : Nat} {ff : Nat → Nat} (h : F24 x y) (hF : FA x P ff) : FA y P ff := fun q hq => (congrFun (h.2.2 23 (by decide)) q).trans (hF q hq)
section MEA
variable {M g P k a : Nat} {nb : Nat → Nat → Nat} {y : St}
theorem fa_start {i : Nat} {v : Int32} (h : ∀ j, j < i → y.2.1 23 j = less1 (fl M nb g 0 j)) (hv : v = less1 (fl M nb g 0 i)) : ∀ j, j < i + 1 → (setA y 23 (upd (y.2.1 23) i v)).2.1 23 j = less1 (fl M nb g 0 j) := by
  intro j hj
  refine (congrFun sA_eq j).trans ?_
  by_cases e : j = i
  · subst e; exact upd_eq.trans hv
  · exact (upd_ne e).trans (h j (by omega))
theorem fa_skip (h : FA y P (mix M nb g k a)) (he : fl M nb g (k + 1) a = fl M nb g k a) : FA y P (mix M nb g k (a + 1)) := by
  intro q hq
  rw [h q hq]
  by_cases e : q = a
  · subst e; rw [mix_at, mix_sa, he]
  · rw [mix_s e]
theorem fa_set (h : FA y P (mix M nb g k a)) (he : fl M nb g (k + 1) a = k + 2) : FA (setA y 23 (upd (y.2.1 23) a (nI (k + 1)))) P (mix M nb g k (a + 1)) := by
  intro q hq
  refine (congrFun sA_eq q).trans ?_
  by_cases e : q = a
  · subst e; rw [mix_sa, he]; exact upd_eq
  · rw [mix_s e]; exact (upd_ne e).trans (h q hq)
theorem fa_round (h : FA y P (fl M nb g k)) : FA y P (mix M nb g k 0) := fun q hq => by rw [mix_0]; exact h q hq
theorem fa_next (h : FA y P (mix M nb g k P)) : FA y P (fl M nb g (k + 1)) := fun q hq => by rw [← mix_P hq]; exact h q hq
end MEA
theorem fsN_9 {p : Nat → Bool} {n : Nat} (hn : n < 100) (h : fsN p n = (-9)) : ¬ fst p n < n := by
  intro e
  rw [show fsN p n = nI (fst p n) from if_pos e] at h
  exact nI_ne9 (by omega) h
theorem fsN_n9 {p : Nat → Bool} {n : Nat} (h : ¬ fsN p n = (-9)) : fst p n < n := by
  by_cases e : fst p n < n
  · exact e
  · exact absurd (if_neg e) h
theorem less1_le {f k : Nat} (hf : f ≤ 100) (hk : k < 100) : less1 f ≤ nI k ↔ f ≤ k + 1 := by
  by_cases e : f = 0
  · subst e
    have h1 : less1 0 = (-9) := rfl
    have h2 : ((-9 : Int32)).toInt = -9 := by decide
    rw [h1, le_i, h2, nI_i (by omega)]; omega
  · rw [show less1 f = nI (f - 1) from if_neg e, le_i, nI_i (by omega), nI_i (by omega)]; omega
theorem row_step {y : St} {k v : Nat} {rf : Nat → Nat} (h : ∀ j, j < k → y.2.1 24 j = nI (rf j)) (hv : v = rf k) : ∀ j, j < k + 1 → (setA y 24 (upd (y.2.1 24) k (nI v))).2.1 24 j = nI (rf j) := by
  intro j hj
  refine (congrFun sA_eq j).trans ?_
  by_cases e : j = k
  · subst e; rw [← hv]; exact upd_eq
  · exact (upd_ne e).trans (h j (by omega))
theorem less1_m1 {len : Nat} (h : len ≤ 100) : (less1 len - nI 1).toInt = (if len = 0 then (-10) else (len : Int) - 2) := by
  have key : ∀ len, len < 101 → (less1 len - nI 1).toInt = (if len = 0 then (-10) else (len : Int) - 2) := by decide +kernel
  exact key len (by omega)
section LAY
variable {y : St} {q t v T : Nat} {nb : Nat → Nat → Nat} {f : Nat → Int32}
theorem lay_o (h : ∀ j, j < q → ∀ t, t < T → y.2.1 (17 + j) t = nI (nb j t)) : ∀ j, j < q → ∀ t, t < T → (setA y (17 + q) f).2.1 (17 + j) t = nI (nb j t) := fun j hj t ht => (congrFun (sA_ne (by omega)) t).trans (h j hj t ht)
theorem lay_q (h : ∀ j, j < t → y.2.1 (17 + q) j = nI (nb q j)) (hv : v = nb q t) : ∀ j, j < t + 1 → (setA y (17 + q) (upd (y.2.1 (17 + q)) t (nI v))).2.1 (17 + q) j = nI (nb q j) := by
  intro j hj
  refine (congrFun sA_eq j).trans ?_
  by_cases e : j = t
  · subst e; rw [← hv]; exact upd_eq
  · exact (upd_ne e).trans (h j (by omega))
end LAY
theorem fl_leL (M : Nat) (nb : Nat → Nat → Nat) (g q : Nat) : fl M nb g 6 q ≤ 100 := by
  have := fl_le (M := M) (nb := nb) (g := g) 6 q
  omega
section LP
variable {a : SA} {g s : Nat} {k : Int32}
theorem lp_a (hk : k = 0) (h : FLp a g s ≠ 0) : nI s = (if k.toInt < 0 then less1 (FLp a g s) else if tn k + 1 ≤ FLp a g s then nI (ps (a.1 3) (nbL a) g s (tn k)) else (-9)) := by
  subst hk
  have e1 : (0 : Int32).toInt = 0 := by decide
  have e2 : tn 0 = 0 := by decide
  rw [if_neg (by omega), e2, if_pos (by omega)]
  rfl
theorem lp_d (hk : k = 0) (h : less1 (FLp a g s) = (-9)) : (if 0 ≤ (k - nI 1).toInt ∧ (k - nI 1).toInt + 1 < (FLp a g s : Int) then nI ((fun j => mv (a.1 3) (nbL a) g (ps (a.1 3) (nbL a) g s j)) (tn (k - nI 1))) else (-9)) = (if k.toInt < 0 then less1 (FLp a g s) else if tn k + 1 ≤ FLp a g s then nI (ps (a.1 3) (nbL a) g s (tn k)) else (-9)) := by
  subst hk
  have h0 : FLp a g s = 0 := (less1_9 (fl_leL _ _ _ _)).mp h
  have e1 : (0 : Int32).toInt = 0 := by decide
  have e2 : tn 0 = 0 := by decide
  have e3 : ((0 : Int32) - nI 1).toInt = -1 := by decide
  rw [if_neg (show ¬ (0 ≤ ((0 : Int32) - nI 1).toInt ∧ ((0 : Int32) - nI 1).toInt + 1 < (FLp a g s : Int)) by rw [e3]; omega), if_neg (show ¬ (0 : Int32).toInt < 0 by omega), e2, if_neg (show ¬ 0 + 1 ≤ FLp a g s by omega)]
theorem lp_c (hk : -1 ≤ k.toInt ∧ k.toInt ≤ 5) (h0 : ¬ k = 0) (h1 : 0 ≤ k) : (if 0 ≤ (k - nI 1).toInt ∧ (k - nI 1).toInt + 1 < (FLp a g s : Int) then nI ((fun j => mv (a.1 3) (nbL a) g (ps (a.1 3) (nbL a) g s j)) (tn (k - nI 1))) else (-9)) = (if k.toInt < 0 then less1 (FLp a g s) else if tn k + 1 ≤ FLp a g s then nI (ps (a.1 3) (nbL a) g s (tn k)) else (-9)) := by
  have h2 := ge0_i h1
  obtain ⟨kn, k0, k5, rfl⟩ := rng_nat2 (q := k) (A := 0) (B := 5) ⟨by omega, by omega⟩
  have hk1 : kn ≠ 0 := fun e => h0 (by rw [e]; rfl)
  have tnk := tn_nI (n := kn) (by omega)
  have e1 : nI kn - nI 1 = nI (kn - 1) := pk_sub (a := kn) (b := 1) (by omega)
  have e2 := nI_i (n := kn - 1) (by omega)
  have e3 := tn_nI (n := kn - 1) (by omega)
  have e4 := nI_i (n := kn) (by omega)
  rw [e1, e2, e3, tnk, e4]
  by_cases e : kn + 1 ≤ FLp a g s
  · rw [if_pos (show 0 ≤ ((kn - 1 : Nat) : Int) ∧ ((kn - 1 : Nat) : Int) + 1 < (FLp a g s : Int) by omega), if_neg (show ¬ (kn : Int) < 0 by omega), if_pos e]
    obtain ⟨j, rfl⟩ : ∃ j, kn = j + 1 := ⟨kn - 1, by omega⟩
    have e5 : j + 1 + 1 ≤ fl (a.1 3) (nbL a) g 6 s := e
    have h5 := ps_fl (M := a.1 3) (nb := nbL a) (g := g) (a := s) (k := j) (by omega)
    have h6 := nbL_mv (a := a) (g := g) (q := ps (a.1 3) (nbL a) g s j) (by omega)
    show nI (mv (a.1 3) (nbL a) g (ps (a.1 3) (nbL a) g s (j + 1 - 1))) = nI (nbL a (ps (a.1 3) (nbL a) g s j) (mv (a.1 3) (nbL a) g (ps (a.1 3) (nbL a) g s j)))
    rw [Nat.add_sub_cancel, h6]
  · rw [if_neg (show ¬ (0 ≤ ((kn - 1 : Nat) : Int) ∧ ((kn - 1 : Nat) : Int) + 1 < (FLp a g s : Int)) by omega), if_neg (show ¬ (kn : Int) < 0 by omega), if_neg e]
theorem el_c {kd : Nat} (hk : -1 ≤ k.toInt ∧ k.toInt ≤ 4) (h1 : 0 ≤ k) : (if 0 ≤ k.toInt ∧ k.toInt + 1 < (FTd a kd g s : Int) then nI ((fun j => mv 10 (nbT a kd) g (ps 10 (nbT a kd) g s j)) (tn k)) else (-9)) = (if k.toInt < 0 then less1 (FTd a kd g s) else if tn k + 1 < FTd a kd g s then nI (mv 10 (nbT a kd) g (ps 10 (nbT a kd) g s (tn k))) else (-9)) := by
  have h2 := ge0_i h1
  obtain ⟨kn, k0, k5, rfl⟩ := rng_nat2 (q := k) (A := 0) (B := 4) ⟨by omega, by omega⟩
  have tnk := tn_nI (n := kn) (by omega)
  have e4 := nI_i (n := kn) (by omega)
  rw [e4, tnk, if_neg (show ¬ (kn : Int) < 0 by omega)]
  by_cases e : kn + 1 < FTd a kd g s
  · rw [if_pos e, if_pos (show 0 ≤ (kn : Int) ∧ (kn : Int) + 1 < (FTd a kd g s : Int) by omega)]
  · rw [if_neg e, if_neg (show ¬ (0 ≤ (kn : Int) ∧ (kn : Int) + 1 < (FTd a kd g s : Int)) by omega)]
end LP

def rm_X2_begin : Room := ({ frames := 0, cells := 0, slots := 0, locals := 0 })
set_option maxRecDepth 20000 in
theorem c_X2_begin (l : Launch) (Z : EC) (x : St) (p m : Nat) : MIv l Z (wC Z) yX2_begin cX2_begin 3 rm_X2_begin [.ref (Z.2.1 15), .int (nI p), .int (nI m)] x (fun x1 => x1 = setI (setI x 18 (nI p)) 19 (nI m)) := by
  refine MIv_of (own := RX2) (L0 := [some (.ref (Z.2.1 15)), some (.int (nI p)), some (.int (nI m))]) (by decide) rfl (Nat.le_of_ble_eq_true rfl) ⟨rfl, rfl, rfl, trivial⟩ ?_
  intro Γ C E
  refine J_aload_n C dX2_begin_0 rfl rfl ?_
  refine J_iload_n C dX2_begin_1 rfl rfl ?_
  refine P2_pools C wd_26_8 dX2_begin_2 ?_
  refine J_aload_n C dX2_begin_5 rfl rfl ?_
  refine J_iload_n C dX2_begin_6 rfl rfl ?_
  refine P2_moves C wd_26_9 dX2_begin_7 ?_
  exact E dX2_begin_10 rfl
def rm_X2_lay : Room := ({ frames := 0, cells := 0, slots := 0, locals := 0 })
set_option maxRecDepth 20000 in
theorem c_X2_lay (l : Launch) (Z : EC) (x : St) (q m t : Nat) (hq : q < 6) (hm : m < 10) : MIv l Z (wC Z) yX2_lay cX2_lay 4 rm_X2_lay [.ref (Z.2.1 15), .int (nI q), .int (nI m), .int (nI t)] x (fun x1 => x1 = setA x (17 + q) (upd (x.2.1 (17 + q)) m (nI t))) := by
  refine MIv_of (own := RX2) (L0 := [some (.ref (Z.2.1 15)), some (.int (nI q)), some (.int (nI m)), some (.int (nI t))]) (by decide) rfl (Nat.le_of_ble_eq_true rfl) ⟨rfl, rfl, rfl, rfl, trivial⟩ ?_
  intro Γ C E
  refine J_aload_n C dX2_lay_0 rfl rfl ?_
  refine G2_behind C wd_3_3 dX2_lay_1 ?_
  refine J_iload_n C dX2_lay_4 rfl rfl ?_
  refine L_behind C hq dX2_lay_5 ?_
  refine J_iload_n C dX2_lay_6 rfl rfl ?_
  refine J_iload_n C dX2_lay_7 rfl rfl ?_
  refine S_rows hq C (by omega) dX2_lay_8 ?_
  exact E dX2_lay_9 rfl
def rm_X2_moveTo : Room := ({ frames := 0, cells := 0, slots := 0, locals := 0 })
set_option maxRecDepth 20000 in
theorem c_X2_moveTo (l : Launch) (Z : EC) (x : St) {P M : Nat} {nb : Nat → Nat → Nat} (hR : RT x P M nb) (hP : P ≤ 6) (hM : M ≤ 10) {ff : Nat → Nat} (hF : FA x P ff) (hff : ∀ q, ff q ≤ 10) (q d : Nat) (hq : q < P) (hnb : ∀ m, m < M → nb q m < P) (hd : d < 100) : MIi l Z (wC Z) yX2_moveTo cX2_moveTo 4 rm_X2_moveTo [.ref (Z.2.1 15), .int (nI q), .int (nI d)] x (fun r x1 => r = fsN (fun m => ff (nb q m) == d + 1) M ∧ x = x1) := by
  refine MIi_of (own := RX2) (L0 := [some (.ref (Z.2.1 15)), some (.int (nI q)), some (.int (nI d)), none]) (by decide) rfl (Nat.le_of_ble_eq_true rfl) ⟨rfl, rfl, rfl, trivial⟩ ?_
  intro Γ C E
  refine J_iconst C (v := nI 0) dX2_moveTo_0 (by decide) ?_
  refine J_istore_n C (L' := [some (.ref (Z.2.1 15)), some (.int (nI q)), some (.int (nI d)), some (.int (nI 0))]) dX2_moveTo_1 rfl (by decide) rfl rfl ?_
  have lp2 : ∀ (f : Nat) (i : Nat), (i ≤ M) → (¬ fst (fun m => ff (nb q m) == d + 1) i < i) → (M - i < f) →  J Γ x 2 [some (.ref (Z.2.1 15)), some (.int (nI q)), some (.int (nI d)), some (.int (nI i))] [] := by
    intro f
    induction f with
    | zero =>
      intro i hi hv hf
      omega
    | succ f ih2 =>
      intro i hi hv hf
      refine J_iload_n C dX2_moveTo_2 rfl rfl ?_
      refine J_aload_n C dX2_moveTo_3 rfl rfl ?_
      refine G2_moves C wd_26_9 dX2_moveTo_4 ?_
      rw [show x.1 19 = nI M from hR.2.1]
      refine J_icmp_ge_n C (tgt := 35) dX2_moveTo_7 (by decide) (by omega) (by omega) (fun c7 => ?_) (fun c7 => ?_)
      · skip
        refine J_bipush C (v := (-9)) dX2_moveTo_35 (by decide) ?_
        exact E dX2_moveTo_37 (⟨(fsN_no ((show i = M by omega) ▸ hv)).symm, rfl⟩)
      · skip
        refine J_aload_n C dX2_moveTo_10 rfl rfl ?_
        refine G2_far C wd_3_4 dX2_moveTo_11 ?_
        refine J_aload_n C dX2_moveTo_14 rfl rfl ?_
        refine G2_behind C wd_3_3 dX2_moveTo_15 ?_
        refine J_iload_n C dX2_moveTo_18 rfl rfl ?_
        refine L_behind C (show q < 6 by omega) dX2_moveTo_19 ?_
        refine J_iload_n C dX2_moveTo_20 rfl rfl ?_
        refine L_rows (show q < 6 by omega) C (v := nI (nb q i)) (by omega) (hR.2.2 q hq i (by omega)) dX2_moveTo_21 ?_
        refine L_far C (v := less1 (ff (nb q i))) (by have := hnb i (by omega); omega) (hF _ (hnb i (by omega))) dX2_moveTo_22 ?_
        refine J_iload_n C dX2_moveTo_23 rfl rfl ?_
        refine J_icmp_ne C (tgt := 29) dX2_moveTo_24 (by decide) (fun c24 => ?_) (fun c24 => ?_)
        · skip
          refine J_iinc C (v := nI (i + 1)) (L' := [some (.ref (Z.2.1 15)), some (.int (nI q)), some (.int (nI d)), some (.int (nI (i + 1)))]) dX2_moveTo_29 rfl (nI_1 _) (by decide) rfl rfl ?_
          refine J_goto (tgt := 2) C dX2_moveTo_32 (by decide) ?_
          refine J_drop ?_ (ih2 (i + 1) (by omega) (fst_go hv (by have h9 : ¬ ff (nb q i) = d + 1 := fun e => c24 ((less1_d (by have := hff (nb q i); omega) hd).mpr e); simpa using h9)) (by omega))
          exact ⟨rfl, rfl, rfl, rfl, trivial⟩
        · skip
          refine J_iload_n C dX2_moveTo_27 rfl rfl ?_
          exact E dX2_moveTo_28 (⟨(fsN_hit hv (by have h9 := (less1_d (by have := hff (nb q i); omega) hd).mp c24; simpa using h9) (by omega)).symm, rfl⟩)
  refine J_drop ?_ (lp2 (M + 1) 0 (by omega) (Nat.not_lt_zero _) (by omega))
  exact ⟨rfl, rfl, rfl, rfl, trivial⟩
def rm_X2_measure : Room := ({ frames := 1, cells := 0, slots := 0, locals := 23 })
set_option maxRecDepth 20000 in
theorem c_X2_measure (l : Launch) (Z : EC) (x : St) {P M : Nat} {nb : Nat → Nat → Nat} (hR : RT x P M nb) (hP : P ≤ 6) (hM : M ≤ 10) (hnb : ∀ q, q < P → ∀ m, m < M → nb q m < P) (g : Nat) (hg : g < P) : MIv l Z (wC Z) yX2_measure cX2_measure 4 rm_X2_measure [.ref (Z.2.1 15), .int (nI g)] x (fun x1 => F23 x x1 ∧ FA x1 P (fl M nb g 6)) := by
  refine MIv_of (own := RX2) (L0 := [some (.ref (Z.2.1 15)), some (.int (nI g)), none, none]) (by decide) rfl (Nat.le_of_ble_eq_true rfl) ⟨rfl, rfl, trivial⟩ ?_
  intro Γ C E
  refine J_iconst C (v := nI 0) dX2_measure_0 (by decide) ?_
  refine J_istore_n C (L' := [some (.ref (Z.2.1 15)), some (.int (nI g)), some (.int (nI 0)), none]) dX2_measure_1 rfl (by decide) rfl rfl ?_
  have lp2 : ∀ (f : Nat) (i : Nat) (y : St), (i ≤ P) → (F23 x y) → (∀ j, j < i → y.2.1 23 j = less1 (fl M nb g 0 j)) → (P - i < f) →  J Γ y 2 [some (.ref (Z.2.1 15)), some (.int (nI g)), some (.int (nI i)), none] [] := by
    intro f
    induction f with
    | zero =>
      intro i y hi hyf hyi hf
      omega
    | succ f ih2 =>
      intro i y hi hyf hyi hf
      refine J_iload_n C dX2_measure_2 rfl rfl ?_
      refine J_aload_n C dX2_measure_3 rfl rfl ?_
      refine G2_pools C wd_26_8 dX2_measure_4 ?_
      rw [show y.1 18 = nI P from (congrFun hyf.2.1 18).trans hR.1]
      refine J_icmp_ge_n C (tgt := 33) dX2_measure_7 (by decide) (by omega) (by omega) (fun c7 => ?_) (fun c7 => ?_)
      · skip
        refine J_iconst C (v := nI 1) dX2_measure_33 (by decide) ?_
        refine J_istore_n C (L' := [some (.ref (Z.2.1 15)), some (.int (nI g)), some (.int (nI 1)), none]) dX2_measure_34 rfl (by decide) rfl rfl ?_
        have lp35 : ∀ (f : Nat) (k : Nat) (y : St), (k + 1 ≤ P) → (F23 x y) → (FA y P (fl M nb g k)) → (P - k < f) →  J Γ y 35 [some (.ref (Z.2.1 15)), some (.int (nI g)), some (.int (nI (k + 1))), none] [] := by
          intro f
          induction f with
          | zero =>
            intro k y hk hyf hya hf2
            omega
          | succ f ih35 =>
            intro k y hk hyf hya hf2
            refine J_iload_n C dX2_measure_35 rfl rfl ?_
            refine J_aload_n C dX2_measure_36 rfl rfl ?_
            refine G2_pools C wd_26_8 dX2_measure_37 ?_
            rw [show y.1 18 = nI P from (congrFun hyf.2.1 18).trans hR.1]
            refine J_icmp_ge_n C (tgt := 96) dX2_measure_40 (by decide) (by omega) (by omega) (fun c40 => ?_) (fun c40 => ?_)
            · skip
              exact E dX2_measure_96 (⟨hyf, fun q hq => by rw [fl_all hg hP hnb hq, show P - 1 = k by omega]; exact hya q hq⟩)
            · skip
              refine J_iconst C (v := nI 0) dX2_measure_43 (by decide) ?_
              refine J_istore_n C (L' := [some (.ref (Z.2.1 15)), some (.int (nI g)), some (.int (nI (k + 1))), some (.int (nI 0))]) dX2_measure_44 rfl (by decide) rfl rfl ?_
              have lp45 : ∀ (f : Nat) (a : Nat) (y : St), (a ≤ P) → (F23 x y) → (FA y P (mix M nb g k a)) → (P - a < f) →  J Γ y 45 [some (.ref (Z.2.1 15)), some (.int (nI g)), some (.int (nI (k + 1))), some (.int (nI a))] [] := by
                intro f
                induction f with
                | zero =>
                  intro a y ha hyf hya2 hf3
                  omega
                | succ f ih45 =>
                  intro a y ha hyf hya2 hf3
                  refine J_iload_n C dX2_measure_45 rfl rfl ?_
                  refine J_aload_n C dX2_measure_46 rfl rfl ?_
                  refine G2_pools C wd_26_8 dX2_measure_47 ?_
                  rw [show y.1 18 = nI P from (congrFun hyf.2.1 18).trans hR.1]
                  refine J_icmp_ge_n C (tgt := 90) dX2_measure_50 (by decide) (by omega) (by omega) (fun c50 => ?_) (fun c50 => ?_)
                  · skip
                    refine J_iinc C (v := nI ((k + 1) + 1)) (L' := [some (.ref (Z.2.1 15)), some (.int (nI g)), some (.int (nI ((k + 1) + 1))), some (.int (nI a))]) dX2_measure_90 rfl (nI_1 _) (by decide) rfl rfl ?_
                    refine J_goto (tgt := 35) C dX2_measure_93 (by decide) ?_
                    refine J_drop ?_ (ih35 (k + 1) y (by omega) hyf (fa_next ((show a = P by omega) ▸ hya2)) (by omega))
                    exact ⟨rfl, rfl, rfl, trivial⟩
                  · skip
                    refine J_aload_n C dX2_measure_53 rfl rfl ?_
                    refine G2_far C wd_3_4 dX2_measure_54 ?_
                    refine J_iload_n C dX2_measure_57 rfl rfl ?_
                    refine L_far C (v := less1 (fl M nb g k a)) (by omega) ((hya2 a (by omega)).trans (by rw [mix_at])) dX2_measure_58 ?_
                    refine J_bipush C (v := (-9)) dX2_measure_59 (by decide) ?_
                    refine J_icmp_ne C (tgt := 84) dX2_measure_61 (by decide) (fun c61 => ?_) (fun c61 => ?_)
                    · skip
                      refine J_iinc C (v := nI (a + 1)) (L' := [some (.ref (Z.2.1 15)), some (.int (nI g)), some (.int (nI (k + 1))), some (.int (nI (a + 1)))]) dX2_measure_84 rfl (nI_1 _) (by decide) rfl rfl ?_
                      refine J_goto (tgt := 45) C dX2_measure_87 (by decide) ?_
                      refine J_drop ?_ (ih45 (a + 1) y (by omega) hyf (fa_skip hya2 (fl_keep (fun e => c61 ((less1_9 (by have := fl_le (M := M) (nb := nb) (g := g) k a; omega)).mpr e)))) (by omega))
                      exact ⟨rfl, rfl, rfl, rfl, trivial⟩
                    · skip
                      have hk0 : fl M nb g k a = 0 := less1_eq c61 (by have := fl_le (M := M) (nb := nb) (g := g) k a; omega)
                      refine J_aload_n C dX2_measure_64 rfl rfl ?_
                      refine J_iload_n C dX2_measure_65 rfl rfl ?_
                      refine J_iload_n C dX2_measure_66 rfl rfl ?_
                      refine J_iconst C (v := nI 1) dX2_measure_67 (by decide) ?_
                      refine J_isub C (v := nI k) dX2_measure_68 (pk_sub (a := k + 1) (b := 1) (by omega)) ?_
                      refine J_callVi C (q0 := 15) (ci := 2) (N := 6) (As := [.int (nI a), .int (nI k)]) (c_X2_moveTo l Z _ (hyf.rt hR hP) hP hM hya2 (fun q => by have := mix_le (M := M) (nb := nb) (g := g) k a q; omega) _ _ (show a < P by omega) (hnb a (by omega)) (by omega)) cw_RX2_37 wd_27_4 wd_27_5 rfl rfl rfl rfl (Nat.le_of_ble_eq_true rfl) rfl rfl (Nat.le_of_ble_eq_true rfl) (Nat.le_of_ble_eq_true rfl) dX2_measure_69 (fun r69 x69 hp69 => ?_)
                      obtain ⟨hv69, rfl⟩ := hp69
                      rw [mix_p] at hv69
                      subst hv69
                      refine J_bipush C (v := (-9)) dX2_measure_72 (by decide) ?_
                      refine J_icmp_eq C (tgt := 84) dX2_measure_74 (by decide) (fun c74 => ?_) (fun c74 => ?_)
                      · skip
                        refine J_iinc C (v := nI (a + 1)) (L' := [some (.ref (Z.2.1 15)), some (.int (nI g)), some (.int (nI (k + 1))), some (.int (nI (a + 1)))]) dX2_measure_84 rfl (nI_1 _) (by decide) rfl rfl ?_
                        refine J_goto (tgt := 45) C dX2_measure_87 (by decide) ?_
                        refine J_drop ?_ (ih45 (a + 1) y (by omega) hyf (fa_skip hya2 (by rw [fl_not hk0 (fsN_9 (by omega) c74), hk0])) (by omega))
                        exact ⟨rfl, rfl, rfl, rfl, trivial⟩
                      · skip
                        refine J_aload_n C dX2_measure_77 rfl rfl ?_
                        refine G2_far C wd_3_4 dX2_measure_78 ?_
                        refine J_iload_n C dX2_measure_81 rfl rfl ?_
                        refine J_iload_n C dX2_measure_82 rfl rfl ?_
                        refine S_far C (by omega) dX2_measure_83 ?_
                        refine J_iinc C (v := nI (a + 1)) (L' := [some (.ref (Z.2.1 15)), some (.int (nI g)), some (.int (nI (k + 1))), some (.int (nI (a + 1)))]) dX2_measure_84 rfl (nI_1 _) (by decide) rfl rfl ?_
                        refine J_goto (tgt := 45) C dX2_measure_87 (by decide) ?_
                        refine J_drop ?_ (ih45 (a + 1) (setA y 23 (upd (y.2.1 23) a (nI (k + 1)))) (by omega) (hyf.tr F23.arr) (fa_set hya2 (fl_new hk0 (fsN_n9 c74))) (by omega))
                        exact ⟨rfl, rfl, rfl, rfl, trivial⟩
              refine J_drop ?_ (lp45 (P + 1) 0 y (by omega) hyf (fa_round hya) (by omega))
              exact ⟨rfl, rfl, rfl, rfl, trivial⟩
        refine J_drop ?_ (lp35 (P + 1) 0 y (by omega) hyf (fun q hq => hyi q (by omega)) (by omega))
        exact ⟨rfl, rfl, rfl, trivial⟩
      · skip
        refine J_aload_n C dX2_measure_10 rfl rfl ?_
        refine G2_far C wd_3_4 dX2_measure_11 ?_
        refine J_iload_n C dX2_measure_14 rfl rfl ?_
        refine J_iload_n C dX2_measure_15 rfl rfl ?_
        refine J_iload_n C dX2_measure_16 rfl rfl ?_
        refine J_icmp_ne_n C (tgt := 24) dX2_measure_17 (by decide) (by omega) (by omega) (fun c17 => ?_) (fun c17 => ?_)
        · skip
          refine J_bipush C (v := (-9)) dX2_measure_24 (by decide) ?_
          refine S_far C (by omega) dX2_measure_26 ?_
          refine J_iinc C (v := nI (i + 1)) (L' := [some (.ref (Z.2.1 15)), some (.int (nI g)), some (.int (nI (i + 1))), none]) dX2_measure_27 rfl (nI_1 _) (by decide) rfl rfl ?_
          refine J_goto (tgt := 2) C dX2_measure_30 (by decide) ?_
          refine J_drop ?_ (ih2 (i + 1) (setA y 23 (upd (y.2.1 23) i (-9))) (by omega) (hyf.tr F23.arr) (fa_start hyi (by rw [show fl M nb g 0 i = 0 from if_neg c17]; rfl)) (by omega))
          exact ⟨rfl, rfl, rfl, trivial⟩
        · skip
          refine J_iconst C (v := nI 0) dX2_measure_20 (by decide) ?_
          refine J_goto (tgt := 26) C dX2_measure_21 (by decide) ?_
          refine S_far C (by omega) dX2_measure_26 ?_
          refine J_iinc C (v := nI (i + 1)) (L' := [some (.ref (Z.2.1 15)), some (.int (nI g)), some (.int (nI (i + 1))), none]) dX2_measure_27 rfl (nI_1 _) (by decide) rfl rfl ?_
          refine J_goto (tgt := 2) C dX2_measure_30 (by decide) ?_
          refine J_drop ?_ (ih2 (i + 1) (setA y 23 (upd (y.2.1 23) i (nI 0))) (by omega) (hyf.tr F23.arr) (fa_start hyi (by rw [show fl M nb g 0 i = 1 from if_pos c17]; rfl)) (by omega))
          exact ⟨rfl, rfl, rfl, trivial⟩
  refine J_drop ?_ (lp2 (P + 1) 0 x (by omega) F23.rf (fun j hj => absurd hj (Nat.not_lt_zero j)) (by omega))
  exact ⟨rfl, rfl, rfl, trivial⟩
def rm_X2_find : Room := ({ frames := 2, cells := 0, slots := 0, locals := 46 })
set_option maxRecDepth 20000 in
theorem c_X2_find (l : Launch) (Z : EC) (x : St) {P M : Nat} {nb : Nat → Nat → Nat} (hR : RT x P M nb) (hP : P ≤ 6) (hM : M ≤ 10) (hnb : ∀ q, q < P → ∀ m, m < M → nb q m < P) (a g : Nat) (ha : a < P) (hg : g < P) : MIv l Z (wC Z) yX2_find cX2_find 6 rm_X2_find [.ref (Z.2.1 15), .int (nI a), .int (nI g)] x (fun x1 => FRR x x1 ∧ x1.1 20 = less1 (fl M nb g 6 a) ∧ ∀ j, j + 1 < fl M nb g 6 a → x1.2.1 24 j = nI (mv M nb g (ps M nb g a j))) := by
  have hfl := fl_le (M := M) (nb := nb) (g := g) 6
  refine MIv_of (own := RX2) (L0 := [some (.ref (Z.2.1 15)), some (.int (nI a)), some (.int (nI g)), none, none, none]) (by decide) rfl (Nat.le_of_ble_eq_true rfl) ⟨rfl, rfl, rfl, trivial⟩ ?_
  intro Γ C E
  refine J_aload_n C dX2_find_0 rfl rfl ?_
  refine J_iload_n C dX2_find_1 rfl rfl ?_
  refine J_callVv C (q0 := 15) (ci := 2) (N := 6) (As := [.int (nI g)]) (c_X2_measure l Z _ hR hP hM hnb _ hg) cw_RX2_30 wd_27_0 wd_27_1 rfl rfl rfl rfl (Nat.le_of_ble_eq_true rfl) rfl rfl (Nat.le_of_ble_eq_true rfl) (Nat.le_of_ble_eq_true rfl) dX2_find_2 (fun x2 hp2 => ?_)
  obtain ⟨hm2, hfa2⟩ := hp2
  refine J_aload_n C dX2_find_5 rfl rfl ?_
  refine J_aload_n C dX2_find_6 rfl rfl ?_
  refine G2_far C wd_3_4 dX2_find_7 ?_
  refine J_iload_n C dX2_find_10 rfl rfl ?_
  refine L_far C (v := less1 (fl M nb g 6 a)) (by omega) (hfa2 a ha) dX2_find_11 ?_
  refine P2_length C wd_26_22 dX2_find_12 ?_
  refine J_iload_n C dX2_find_15 rfl rfl ?_
  refine J_istore_n C (L' := [some (.ref (Z.2.1 15)), some (.int (nI a)), some (.int (nI g)), some (.int (nI a)), none, none]) dX2_find_16 rfl (by decide) rfl rfl ?_
  refine J_iconst C (v := nI 0) dX2_find_17 (by decide) ?_
  refine J_istore C (L' := [some (.ref (Z.2.1 15)), some (.int (nI a)), some (.int (nI g)), some (.int (nI a)), some (.int (nI 0)), none]) dX2_find_18 (by decide) rfl rfl ?_
  have lp20 : ∀ (f : Nat) (k : Nat) (y : St), (k = 0 ∨ k + 1 ≤ fl M nb g 6 a) → (F24 x2 y) → (y.1 20 = less1 (fl M nb g 6 a)) → (∀ j, j < k → y.2.1 24 j = nI (mv M nb g (ps M nb g a j))) → (8 - k < f) →  J Γ y 20 [some (.ref (Z.2.1 15)), some (.int (nI a)), some (.int (nI g)), some (.int (nI (ps M nb g a k))), some (.int (nI k)), none] [] := by
    intro f
    induction f with
    | zero =>
      intro k y hk hyf hyl hyr hf
      omega
    | succ f ih20 =>
      intro k y hk hyf hyl hyr hf
      have hfa := hfl a
      refine J_iload C dX2_find_20 rfl ?_
      refine J_aload_n C dX2_find_22 rfl rfl ?_
      refine G2_length C wd_26_22 dX2_find_23 ?_
      rw [show y.1 20 = less1 (fl M nb g 6 a) from hyl]
      refine J_icmp_ge C (tgt := 76) dX2_find_26 (by decide) (fun c26 => ?_) (fun c26 => ?_)
      · skip
        have hkl := (less1_le (f := fl M nb g 6 a) (k := k) (by omega) (by omega)).mp c26
        exact E dX2_find_76 (⟨hm2.r.tr hyf.r, hyl, fun j hj => hyr j (by omega)⟩)
      · skip
        have hkl : ¬ fl M nb g 6 a ≤ k + 1 := fun e => c26 ((less1_le (by omega) (by omega)).mpr e)
        have hfp := ps_fl (M := M) (nb := nb) (g := g) (a := a) (k := k) (by omega)
        have hps := ps_P hnb ha (k := k) (show k + 1 ≤ fl M nb g 6 a by omega)
        have hmv := mv_lt (M := M) (nb := nb) (g := g) (q := ps M nb g a k) (by omega)
        refine J_aload_n C dX2_find_29 rfl rfl ?_
        refine J_iload_n C dX2_find_30 rfl rfl ?_
        refine J_aload_n C dX2_find_31 rfl rfl ?_
        refine G2_far C wd_3_4 dX2_find_32 ?_
        refine J_iload_n C dX2_find_35 rfl rfl ?_
        refine L_far C (v := nI (fl M nb g 6 (ps M nb g a k) - 1)) (by omega) ((hyf.fa hfa2 _ hps).trans (if_neg (by omega))) dX2_find_36 ?_
        refine J_iconst C (v := nI 1) dX2_find_37 (by decide) ?_
        refine J_isub C (v := nI ((fl M nb g 6 (ps M nb g a k) - 1) - 1)) dX2_find_38 (pk_sub (a := fl M nb g 6 (ps M nb g a k) - 1) (b := 1) (by omega)) ?_
        refine J_callVi C (q0 := 15) (ci := 2) (N := 6) (As := [.int (nI (ps M nb g a k)), .int (nI ((fl M nb g 6 (ps M nb g a k) - 1) - 1))]) (c_X2_moveTo l Z _ ((hyf.rt (hm2.rt hR hP) hP)) hP hM (hyf.fa hfa2) (fun q => by have := hfl q; omega) _ _ hps (hnb _ hps) (by omega)) cw_RX2_37 wd_27_4 wd_27_5 rfl rfl rfl rfl (Nat.le_of_ble_eq_true rfl) rfl rfl (Nat.le_of_ble_eq_true rfl) (Nat.le_of_ble_eq_true rfl) dX2_find_39 (fun r39 x39 hp39 => ?_)
        obtain ⟨hv39, rfl⟩ := hp39
        rw [fsN_mv (by omega) (by omega)] at hv39
        subst hv39
        refine J_istore C (L' := [some (.ref (Z.2.1 15)), some (.int (nI a)), some (.int (nI g)), some (.int (nI (ps M nb g a k))), some (.int (nI k)), some (.int (nI (mv M nb g (ps M nb g a k))))]) dX2_find_42 (by decide) rfl rfl ?_
        refine J_iload C dX2_find_44 rfl ?_
        refine J_bipush C (v := (-9)) dX2_find_46 (by decide) ?_
        refine J_icmp_eq C (tgt := 70) dX2_find_48 (by decide) (fun c48 => absurd c48 (nI_ne9 (by omega))) (fun c48 => ?_)
        refine J_aload_n C dX2_find_51 rfl rfl ?_
        refine G2_row C wd_3_5 dX2_find_52 ?_
        refine J_iload C dX2_find_55 rfl ?_
        refine J_iload C dX2_find_57 rfl ?_
        refine S_row C (by omega) dX2_find_59 ?_
        refine J_aload_n C dX2_find_60 rfl rfl ?_
        refine G2_behind C wd_3_3 dX2_find_61 ?_
        refine J_iload_n C dX2_find_64 rfl rfl ?_
        refine L_behind C (show ps M nb g a k < 6 by omega) dX2_find_65 ?_
        refine J_iload C dX2_find_66 rfl ?_
        refine L_rows (by omega) C (v := nI (nb (ps M nb g a k) (mv M nb g (ps M nb g a k)))) (by omega) ((congrFun (sA_ne (by omega)) _).trans ((hyf.rt (hm2.rt hR hP) hP).2.2 _ hps _ hmv)) dX2_find_68 ?_
        refine J_istore_n C (L' := [some (.ref (Z.2.1 15)), some (.int (nI a)), some (.int (nI g)), some (.int (nI (nb (ps M nb g a k) (mv M nb g (ps M nb g a k))))), some (.int (nI k)), some (.int (nI (mv M nb g (ps M nb g a k))))]) dX2_find_69 rfl (by decide) rfl rfl ?_
        refine J_iinc C (v := nI (k + 1)) (L' := [some (.ref (Z.2.1 15)), some (.int (nI a)), some (.int (nI g)), some (.int (nI (nb (ps M nb g a k) (mv M nb g (ps M nb g a k))))), some (.int (nI (k + 1))), some (.int (nI (mv M nb g (ps M nb g a k))))]) dX2_find_70 rfl (nI_1 _) (by decide) rfl rfl ?_
        refine J_goto (tgt := 20) C dX2_find_73 (by decide) ?_
        refine J_drop ?_ (ih20 (k + 1) (setA y 24 (upd (y.2.1 24) k (nI (mv M nb g (ps M nb g a k))))) (Or.inr (by omega)) (hyf.tr F24.arr) hyl (row_step hyr rfl) (by omega))
        exact ⟨rfl, rfl, rfl, rfl, rfl, trivial⟩
  refine J_drop ?_ (lp20 9 0 (setI x2 20 (less1 (fl M nb g 6 a))) (Or.inl rfl) F24.int sI_eq (fun j hj => absurd hj (Nat.not_lt_zero j)) (by omega))
  exact ⟨rfl, rfl, rfl, rfl, rfl, trivial⟩
def rm_X2_moveAt : Room := ({ frames := 1, cells := 0, slots := 0, locals := 22 })
set_option maxRecDepth 20000 in
theorem c_X2_moveAt (l : Launch) (Z : EC) (x : St) {len : Nat} (hl : x.1 20 = less1 len) (hlen : len ≤ 7) (k : Int32) {rf : Nat → Nat} (hrow : ∀ j, j + 1 < len → x.2.1 24 j = nI (rf j)) : MIi l Z (wC Z) yX2_moveAt cX2_moveAt 2 rm_X2_moveAt [.ref (Z.2.1 15), .int k] x (fun r x1 => r = (if 0 ≤ k.toInt ∧ k.toInt + 1 < (len : Int) then nI (rf (tn k)) else (-9)) ∧ x = x1) := by
  refine MIi_of (own := RX2) (L0 := [some (.ref (Z.2.1 15)), some (.int k)]) (by decide) rfl (Nat.le_of_ble_eq_true rfl) ⟨rfl, rfl, trivial⟩ ?_
  intro Γ C E
  refine J_iload_n C dX2_moveAt_0 rfl rfl ?_
  refine J_iconst C (v := nI 0) dX2_moveAt_1 (by decide) ?_
  refine J_aload_n C dX2_moveAt_2 rfl rfl ?_
  refine G2_length C wd_26_22 dX2_moveAt_3 ?_
  rw [show x.1 20 = less1 len from hl]
  refine J_iconst C (v := nI 1) dX2_moveAt_6 (by decide) ?_
  refine J_isub C (v := (less1 len) - (nI 1)) dX2_moveAt_7 (rfl) ?_
  refine J_callNz C (As := [.int k, .int (nI 0), .int ((less1 len) - (nI 1))]) (c_X5_isWithin l Z _ _ _ _ (0) (if len = 0 then (-10) else (len : Int) - 2) (by decide) (less1_m1 (by omega))) cw_RX2_41 wd_4_23 rfl rfl (Nat.le_of_ble_eq_true rfl) rfl rfl (Nat.le_of_ble_eq_true rfl) (Nat.le_of_ble_eq_true rfl) dX2_moveAt_8 (fun b8 x8 hp8 => ?_)
  obtain ⟨rfl, rfl⟩ := hp8
  refine J_if_eq_d C (tgt := 23) dX2_moveAt_11 (by decide) (fun c11 => ?_) (fun c11 => ?_)
  · skip
    have h11 : ¬ (0 ≤ k.toInt ∧ k.toInt + 1 < (len : Int)) := fun h => c11 ⟨h.1, by rw [if_neg (by omega)]; omega⟩
    refine J_bipush C (v := (-9)) dX2_moveAt_23 (by decide) ?_
    exact E dX2_moveAt_25 (⟨(if_neg h11).symm, rfl⟩)
  · skip
    have hl0 : ¬ len = 0 := fun e => by rw [if_pos e] at c11; omega
    rw [if_neg hl0] at c11
    have h11 : 0 ≤ k.toInt ∧ k.toInt + 1 < (len : Int) := by omega
    obtain ⟨kn, hkn, rfl⟩ := rng_nat (q := k) (P := len) (by omega)
    have tnk := tn_nI (n := kn) (by omega)
    have ekn := nI_i (n := kn) (by omega)
    refine J_aload_n C dX2_moveAt_14 rfl rfl ?_
    refine G2_row C wd_3_5 dX2_moveAt_15 ?_
    refine J_iload_n C dX2_moveAt_18 rfl rfl ?_
    refine L_row C (v := nI (rf kn)) (by omega) (hrow kn (by omega)) dX2_moveAt_19 ?_
    refine J_goto (tgt := 25) C dX2_moveAt_20 (by decide) ?_
    exact E dX2_moveAt_25 (⟨by rw [if_pos h11, tnk], rfl⟩)
def rm_X5_layLeaps : Room := ({ frames := 2, cells := 0, slots := 0, locals := 43 })
set_option maxRecDepth 20000 in
theorem c_X5_layLeaps (l : Launch) (Z : EC) (x : St) (a : SA) (hs : CS x a) (ok : SOK a)  : MIv l Z (wC Z) yX5_layLeaps cX5_layLeaps 3 rm_X5_layLeaps [.ref (Z.2.1 0)] x (fun x1 => FRR x x1 ∧ RT x1 (a.1 3) (a.1 3) (nbL a)) := by
  obtain ⟨ok0, ok1, ok2, ok3, ok4, ok5, ok6, ok7⟩ := id ok
  refine MIv_of (own := RX5) (L0 := [some (.ref (Z.2.1 0)), none, none]) (by decide) rfl (Nat.le_of_ble_eq_true rfl) ⟨rfl, trivial⟩ ?_
  intro Γ C E
  refine J_aload_n C dX5_layLeaps_0 rfl rfl ?_
  refine G5_route C wd_2_3 dX5_layLeaps_1 ?_
  refine J_aload_n C dX5_layLeaps_4 rfl rfl ?_
  refine G5_shore C wd_2_7 dX5_layLeaps_5 ?_
  rw [show x.2.2.1 = x.2.2.1 from rfl]
  refine G4n_pools hs.1 hs.2.2.2 C wd_11_6 dX5_layLeaps_8 ?_
  refine J_aload_n C dX5_layLeaps_11 rfl rfl ?_
  refine G5_shore C wd_2_7 dX5_layLeaps_12 ?_
  rw [show x.2.2.1 = x.2.2.1 from rfl]
  refine G4n_pools hs.1 hs.2.2.2 C wd_11_6 dX5_layLeaps_15 ?_
  refine J_callVv C (q0 := 15) (ci := 2) (N := 6) (As := [.int (nI (a.1 3)), .int (nI (a.1 3))]) (c_X2_begin l Z _ _ _) cw_RX5_229 wd_26_5 wd_26_6 rfl rfl rfl rfl (Nat.le_of_ble_eq_true rfl) rfl rfl (Nat.le_of_ble_eq_true rfl) (Nat.le_of_ble_eq_true rfl) dX5_layLeaps_18 (fun x18 hp18 => ?_)
  obtain (rfl) := hp18
  refine J_iconst C (v := nI 0) dX5_layLeaps_21 (by decide) ?_
  refine J_istore_n C (L' := [some (.ref (Z.2.1 0)), some (.int (nI 0)), none]) dX5_layLeaps_22 rfl (by decide) rfl rfl ?_
  have lp23 : ∀ (f : Nat) (q : Nat) (y : St), (q ≤ a.1 3) → (FRR x y) → (y.1 18 = nI (a.1 3) ∧ y.1 19 = nI (a.1 3)) → (∀ j, j < q → ∀ t, t < a.1 3 → y.2.1 (17 + j) t = nI (nbL a j t)) → (a.1 3 - q < f) →  J Γ y 23 [some (.ref (Z.2.1 0)), some (.int (nI q)), none] [] := by
    intro f
    induction f with
    | zero =>
      intro q y hq hyf hy1 hyr hf
      omega
    | succ f ih23 =>
      intro q y hq hyf hy1 hyr hf
      refine J_iload_n C dX5_layLeaps_23 rfl rfl ?_
      refine J_aload_n C dX5_layLeaps_24 rfl rfl ?_
      refine G5_shore C wd_2_7 dX5_layLeaps_25 ?_
      rw [show y.2.2.1 = x.2.2.1 from by rw [hyf.1]]
      refine G4n_pools hs.1 (hyf.sh hs.2.2.2) C wd_11_6 dX5_layLeaps_28 ?_
      refine J_icmp_ge_n C (tgt := 85) dX5_layLeaps_31 (by decide) (by omega) (by omega) (fun c31 => ?_) (fun c31 => ?_)
      · skip
        exact E dX5_layLeaps_85 (⟨hyf, hy1.1, hy1.2, fun j hj t ht => hyr j (by omega) t ht⟩)
      · skip
        refine J_iconst C (v := nI 0) dX5_layLeaps_34 (by decide) ?_
        refine J_istore_n C (L' := [some (.ref (Z.2.1 0)), some (.int (nI q)), some (.int (nI 0))]) dX5_layLeaps_35 rfl (by decide) rfl rfl ?_
        have lp36 : ∀ (f : Nat) (t : Nat) (y : St), (t ≤ a.1 3) → (FRR x y) → (y.1 18 = nI (a.1 3) ∧ y.1 19 = nI (a.1 3)) → (∀ j, j < q → ∀ t, t < a.1 3 → y.2.1 (17 + j) t = nI (nbL a j t)) → (∀ j, j < t → y.2.1 (17 + q) j = nI (nbL a q j)) → (a.1 3 - t < f) →  J Γ y 36 [some (.ref (Z.2.1 0)), some (.int (nI q)), some (.int (nI t))] [] := by
          intro f
          induction f with
          | zero =>
            intro t y ht hyf hy1 hyr hyq hf2
            omega
          | succ f ih36 =>
            intro t y ht hyf hy1 hyr hyq hf2
            refine J_iload_n C dX5_layLeaps_36 rfl rfl ?_
            refine J_aload_n C dX5_layLeaps_37 rfl rfl ?_
            refine G5_shore C wd_2_7 dX5_layLeaps_38 ?_
            rw [show y.2.2.1 = x.2.2.1 from by rw [hyf.1]]
            refine G4n_pools hs.1 (hyf.sh hs.2.2.2) C wd_11_6 dX5_layLeaps_41 ?_
            refine J_icmp_ge_n C (tgt := 79) dX5_layLeaps_44 (by decide) (by omega) (by omega) (fun c44 => ?_) (fun c44 => ?_)
            · skip
              refine J_iinc C (v := nI (q + 1)) (L' := [some (.ref (Z.2.1 0)), some (.int (nI (q + 1))), some (.int (nI t))]) dX5_layLeaps_79 rfl (nI_1 _) (by decide) rfl rfl ?_
              refine J_goto (tgt := 23) C dX5_layLeaps_82 (by decide) ?_
              refine J_drop ?_ (ih23 (q + 1) y (by omega) hyf hy1 (fun j hj t ht => by by_cases e : j = q; (rw [e]; exact hyq t (by omega)); (exact hyr j (by omega) t ht)) (by omega))
              exact ⟨rfl, rfl, trivial⟩
            · skip
              refine J_aload_n C dX5_layLeaps_47 rfl rfl ?_
              refine G5_route C wd_2_3 dX5_layLeaps_48 ?_
              refine J_iload_n C dX5_layLeaps_51 rfl rfl ?_
              refine J_iload_n C dX5_layLeaps_52 rfl rfl ?_
              refine J_aload_n C dX5_layLeaps_53 rfl rfl ?_
              refine G5_shore C wd_2_7 dX5_layLeaps_54 ?_
              rw [show y.2.2.1 = x.2.2.1 from by rw [hyf.1]]
              refine J_iload_n C dX5_layLeaps_57 rfl rfl ?_
              refine J_iload_n C dX5_layLeaps_58 rfl rfl ?_
              refine J_callVz C (N := 10) (As := [.int (nI q), .int (nI t)]) (c_X4_isInReach l Z _ hs.1 (hyf.sh hs.2.2.2) ok _ _ (by omega) (by omega)) cw_RX5_231 wd_26_11 wd_26_12 (at_shore hs.1) rfl rfl rfl (Nat.le_of_ble_eq_true rfl) rfl rfl (Nat.le_of_ble_eq_true rfl) (Nat.le_of_ble_eq_true rfl) dX5_layLeaps_59 (fun b59 x59 hp59 => ?_)
              obtain ⟨rfl, rfl⟩ := hp59
              refine J_if_eq_b C (tgt := 69) dX5_layLeaps_62 (by decide) (fun c62 => ?_) (fun c62 => ?_)
              · skip
                refine J_iload_n C dX5_layLeaps_69 rfl rfl ?_
                refine J_callVv C (q0 := 15) (ci := 2) (N := 6) (As := [.int (nI q), .int (nI t), .int (nI q)]) (c_X2_lay l Z _ _ _ _ (by omega) (by omega)) cw_RX5_235 wd_26_15 wd_26_16 rfl rfl rfl rfl (Nat.le_of_ble_eq_true rfl) rfl rfl (Nat.le_of_ble_eq_true rfl) (Nat.le_of_ble_eq_true rfl) dX5_layLeaps_70 (fun x70 hp70 => ?_)
                obtain (rfl) := hp70
                refine J_iinc C (v := nI (t + 1)) (L' := [some (.ref (Z.2.1 0)), some (.int (nI q)), some (.int (nI (t + 1)))]) dX5_layLeaps_73 rfl (nI_1 _) (by decide) rfl rfl ?_
                refine J_goto (tgt := 36) C dX5_layLeaps_76 (by decide) ?_
                refine J_drop ?_ (ih36 (t + 1) (setA y (17 + q) (upd (y.2.1 (17 + q)) t (nI q))) (by omega) (hyf.tr (FRR.arr (by omega) (by omega))) hy1 (lay_o hyr) (lay_q hyq (if_neg (of_decide_eq_false c62)).symm) (by omega))
                exact ⟨rfl, rfl, rfl, trivial⟩
              · skip
                refine J_iload_n C dX5_layLeaps_65 rfl rfl ?_
                refine J_goto (tgt := 70) C dX5_layLeaps_66 (by decide) ?_
                refine J_callVv C (q0 := 15) (ci := 2) (N := 6) (As := [.int (nI q), .int (nI t), .int (nI t)]) (c_X2_lay l Z _ _ _ _ (by omega) (by omega)) cw_RX5_235 wd_26_15 wd_26_16 rfl rfl rfl rfl (Nat.le_of_ble_eq_true rfl) rfl rfl (Nat.le_of_ble_eq_true rfl) (Nat.le_of_ble_eq_true rfl) dX5_layLeaps_70 (fun x70 hp70 => ?_)
                obtain (rfl) := hp70
                refine J_iinc C (v := nI (t + 1)) (L' := [some (.ref (Z.2.1 0)), some (.int (nI q)), some (.int (nI (t + 1)))]) dX5_layLeaps_73 rfl (nI_1 _) (by decide) rfl rfl ?_
                refine J_goto (tgt := 36) C dX5_layLeaps_76 (by decide) ?_
                refine J_drop ?_ (ih36 (t + 1) (setA y (17 + q) (upd (y.2.1 (17 + q)) t (nI t))) (by omega) (hyf.tr (FRR.arr (by omega) (by omega))) hy1 (lay_o hyr) (lay_q hyq (if_pos (of_decide_eq_true c62)).symm) (by omega))
                exact ⟨rfl, rfl, rfl, trivial⟩
        refine J_drop ?_ (lp36 (a.1 3 + 1) 0 y (by omega) hyf hy1 hyr (fun j hj => absurd hj (Nat.not_lt_zero j)) (by omega))
        exact ⟨rfl, rfl, rfl, trivial⟩
  refine J_drop ?_ (lp23 (a.1 3 + 1) 0 (setI (setI x 18 (nI (a.1 3))) 19 (nI (a.1 3))) (by omega) ((FRR.int (by omega) (by omega)).tr (FRR.int (by omega) (by omega))) ⟨(sI_ne (by decide)).trans sI_eq, sI_eq⟩ (fun j hj => absurd hj (Nat.not_lt_zero j)) (by omega))
  exact ⟨rfl, rfl, trivial⟩
def rm_X5_layTides : Room := ({ frames := 3, cells := 0, slots := 0, locals := 71 })
set_option maxRecDepth 20000 in
theorem c_X5_layTides (l : Launch) (Z : EC) (x : St) (a : SA) (hs : CS x a) (ok : SOK a) (kd : Nat) (hkd : kd ≤ 2) : MIv l Z (wC Z) yX5_layTides cX5_layTides 4 rm_X5_layTides [.ref (Z.2.1 0), .int (nI kd)] x (fun x1 => FRR x x1 ∧ RT x1 (a.1 3) 10 (nbT a kd)) := by
  obtain ⟨ok0, ok1, ok2, ok3, ok4, ok5, ok6, ok7⟩ := id ok
  refine MIv_of (own := RX5) (L0 := [some (.ref (Z.2.1 0)), some (.int (nI kd)), none, none]) (by decide) rfl (Nat.le_of_ble_eq_true rfl) ⟨rfl, rfl, trivial⟩ ?_
  intro Γ C E
  refine J_aload_n C dX5_layTides_0 rfl rfl ?_
  refine G5_route C wd_2_3 dX5_layTides_1 ?_
  refine J_aload_n C dX5_layTides_4 rfl rfl ?_
  refine G5_shore C wd_2_7 dX5_layTides_5 ?_
  rw [show x.2.2.1 = x.2.2.1 from rfl]
  refine G4n_pools hs.1 hs.2.2.2 C wd_11_6 dX5_layTides_8 ?_
  refine J_bipush C (v := nI 10) dX5_layTides_11 (by decide) ?_
  refine J_callVv C (q0 := 15) (ci := 2) (N := 6) (As := [.int (nI (a.1 3)), .int (nI 10)]) (c_X2_begin l Z _ _ _) cw_RX5_229 wd_26_5 wd_26_6 rfl rfl rfl rfl (Nat.le_of_ble_eq_true rfl) rfl rfl (Nat.le_of_ble_eq_true rfl) (Nat.le_of_ble_eq_true rfl) dX5_layTides_13 (fun x13 hp13 => ?_)
  obtain (rfl) := hp13
  refine J_iconst C (v := nI 0) dX5_layTides_16 (by decide) ?_
  refine J_istore_n C (L' := [some (.ref (Z.2.1 0)), some (.int (nI kd)), some (.int (nI 0)), none]) dX5_layTides_17 rfl (by decide) rfl rfl ?_
  have lp18 : ∀ (f : Nat) (q : Nat) (y : St), (q ≤ a.1 3) → (FRR x y) → (y.1 18 = nI (a.1 3) ∧ y.1 19 = nI 10) → (∀ j, j < q → ∀ t, t < 10 → y.2.1 (17 + j) t = nI (nbT a kd j t)) → (a.1 3 - q < f) →  J Γ y 18 [some (.ref (Z.2.1 0)), some (.int (nI kd)), some (.int (nI q)), none] [] := by
    intro f
    induction f with
    | zero =>
      intro q y hq hyf hy1 hyr hf
      omega
    | succ f ih18 =>
      intro q y hq hyf hy1 hyr hf
      refine J_iload_n C dX5_layTides_18 rfl rfl ?_
      refine J_aload_n C dX5_layTides_19 rfl rfl ?_
      refine G5_shore C wd_2_7 dX5_layTides_20 ?_
      rw [show y.2.2.1 = x.2.2.1 from by rw [hyf.1]]
      refine G4n_pools hs.1 (hyf.sh hs.2.2.2) C wd_11_6 dX5_layTides_23 ?_
      refine J_icmp_ge_n C (tgt := 68) dX5_layTides_26 (by decide) (by omega) (by omega) (fun c26 => ?_) (fun c26 => ?_)
      · skip
        exact E dX5_layTides_68 (⟨hyf, hy1.1, hy1.2, fun j hj t ht => hyr j (by omega) t ht⟩)
      · skip
        refine J_iconst C (v := nI 0) dX5_layTides_29 (by decide) ?_
        refine J_istore_n C (L' := [some (.ref (Z.2.1 0)), some (.int (nI kd)), some (.int (nI q)), some (.int (nI 0))]) dX5_layTides_30 rfl (by decide) rfl rfl ?_
        have lp31 : ∀ (f : Nat) (t : Nat) (y : St), (t ≤ 10) → (FRR x y) → (y.1 18 = nI (a.1 3) ∧ y.1 19 = nI 10) → (∀ j, j < q → ∀ t, t < 10 → y.2.1 (17 + j) t = nI (nbT a kd j t)) → (∀ j, j < t → y.2.1 (17 + q) j = nI (nbT a kd q j)) → (10 - t < f) →  J Γ y 31 [some (.ref (Z.2.1 0)), some (.int (nI kd)), some (.int (nI q)), some (.int (nI t))] [] := by
          intro f
          induction f with
          | zero =>
            intro t y ht hyf hy1 hyr hyq hf2
            omega
          | succ f ih31 =>
            intro t y ht hyf hy1 hyr hyq hf2
            refine J_iload_n C dX5_layTides_31 rfl rfl ?_
            refine J_bipush C (v := nI 9) dX5_layTides_32 (by decide) ?_
            refine J_icmp_gt_n C (tgt := 62) dX5_layTides_34 (by decide) (by omega) (by omega) (fun c34 => ?_) (fun c34 => ?_)
            · skip
              refine J_iinc C (v := nI (q + 1)) (L' := [some (.ref (Z.2.1 0)), some (.int (nI kd)), some (.int (nI (q + 1))), some (.int (nI t))]) dX5_layTides_62 rfl (nI_1 _) (by decide) rfl rfl ?_
              refine J_goto (tgt := 18) C dX5_layTides_65 (by decide) ?_
              refine J_drop ?_ (ih18 (q + 1) y (by omega) hyf hy1 (fun j hj t ht => by by_cases e : j = q; (rw [e]; exact hyq t (by omega)); (exact hyr j (by omega) t ht)) (by omega))
              exact ⟨rfl, rfl, rfl, trivial⟩
            · skip
              refine J_aload_n C dX5_layTides_37 rfl rfl ?_
              refine G5_route C wd_2_3 dX5_layTides_38 ?_
              refine J_iload_n C dX5_layTides_41 rfl rfl ?_
              refine J_iload_n C dX5_layTides_42 rfl rfl ?_
              refine J_aload_n C dX5_layTides_43 rfl rfl ?_
              refine G5_shore C wd_2_7 dX5_layTides_44 ?_
              rw [show y.2.2.1 = x.2.2.1 from by rw [hyf.1]]
              refine J_iload_n C dX5_layTides_47 rfl rfl ?_
              refine J_iload_n C dX5_layTides_48 rfl rfl ?_
              refine J_iload_n C dX5_layTides_49 rfl rfl ?_
              refine J_callVi C (N := 10) (As := [.int (nI q), .int (nI kd), .int (nI t)]) (c_X4_poolBehind l Z _ hs.1 (hyf.sh hs.2.2.2) ok _ _ _ (show q < a.1 3 by omega) hkd (by omega)) cw_RX5_243 wd_17_19 wd_17_20 (at_shore hs.1) rfl rfl rfl (Nat.le_of_ble_eq_true rfl) rfl rfl (Nat.le_of_ble_eq_true rfl) (Nat.le_of_ble_eq_true rfl) dX5_layTides_50 (fun r50 x50 hp50 => ?_)
              obtain ⟨rfl, rfl⟩ := hp50
              refine J_callVv C (q0 := 15) (ci := 2) (N := 6) (As := [.int (nI q), .int (nI t), .int (nI (carry a q kd t))]) (c_X2_lay l Z _ _ _ _ (by omega) (by omega)) cw_RX5_235 wd_26_15 wd_26_16 rfl rfl rfl rfl (Nat.le_of_ble_eq_true rfl) rfl rfl (Nat.le_of_ble_eq_true rfl) (Nat.le_of_ble_eq_true rfl) dX5_layTides_53 (fun x53 hp53 => ?_)
              obtain (rfl) := hp53
              refine J_iinc C (v := nI (t + 1)) (L' := [some (.ref (Z.2.1 0)), some (.int (nI kd)), some (.int (nI q)), some (.int (nI (t + 1)))]) dX5_layTides_56 rfl (nI_1 _) (by decide) rfl rfl ?_
              refine J_goto (tgt := 31) C dX5_layTides_59 (by decide) ?_
              refine J_drop ?_ (ih31 (t + 1) (setA y (17 + q) (upd (y.2.1 (17 + q)) t (nI (carry a q kd t)))) (by omega) (hyf.tr (FRR.arr (by omega) (by omega))) hy1 (lay_o hyr) (lay_q hyq rfl) (by omega))
              exact ⟨rfl, rfl, rfl, rfl, trivial⟩
        refine J_drop ?_ (lp31 (10 + 1) 0 y (by omega) hyf hy1 hyr (fun j hj => absurd hj (Nat.not_lt_zero j)) (by omega))
        exact ⟨rfl, rfl, rfl, rfl, trivial⟩
  refine J_drop ?_ (lp18 (a.1 3 + 1) 0 (setI (setI x 18 (nI (a.1 3))) 19 (nI 10)) (by omega) ((FRR.int (by omega) (by omega)).tr (FRR.int (by omega) (by omega))) ⟨(sI_ne (by decide)).trans sI_eq, sI_eq⟩ (fun j hj => absurd hj (Nat.not_lt_zero j)) (by omega))
  exact ⟨rfl, rfl, rfl, trivial⟩
def rm_X5_leaps : Room := ({ frames := 3, cells := 0, slots := 0, locals := 71 })
set_option maxRecDepth 20000 in
theorem c_X5_leaps (l : Launch) (Z : EC) (x : St) (A : AB) (hA : AbsC x A) (hk : AOK A) (a b k : Int32) : MIi l Z (wC Z) yX5_leaps cX5_leaps 4 rm_X5_leaps [.ref (Z.2.1 0), .int a, .int b, .int k] x (fun r x1 => r = R_leaps A a b k ∧ AbsC x1 A) := by
  obtain ⟨⟨hcur, htr, hne, hr⟩, hH, hR, hT, hF⟩ := id hA
  obtain ⟨ok, hkH, hkR, hkr⟩ := id hk
  obtain ⟨ok0, ok1, ok2, ok3, ok4, ok5, ok6, ok7⟩ := id ok
  refine MIi_of (own := RX5) (L0 := [some (.ref (Z.2.1 0)), some (.int a), some (.int b), some (.int k)]) (by decide) rfl (Nat.le_of_ble_eq_true rfl) ⟨rfl, rfl, rfl, rfl, trivial⟩ ?_
  intro Γ C E
  refine J_aload_n C dX5_leaps_0 rfl rfl ?_
  refine J_iload_n C dX5_leaps_1 rfl rfl ?_
  refine J_callVz C (q0 := 0) (ci := 5) (N := 8) (As := [.int a]) (c_X5_isPool l Z _ A.1 hA.1 ok _) cw_RX5_89 wd_11_3 wd_11_4 rfl rfl rfl rfl (Nat.le_of_ble_eq_true rfl) rfl rfl (Nat.le_of_ble_eq_true rfl) (Nat.le_of_ble_eq_true rfl) dX5_leaps_2 (fun b2 x2 hp2 => ?_)
  obtain ⟨rfl, rfl⟩ := hp2
  refine J_if_eq_d C (tgt := 16) dX5_leaps_5 (by decide) (fun c5 => ?_) (fun c5 => ?_)
  · skip
    refine J_iconst C (v := (-1)) dX5_leaps_16 (by decide) ?_
    exact E dX5_leaps_17 (⟨by rw [R_leaps, if_neg c5], hA⟩)
  · skip
    obtain ⟨an, han, rfl⟩ := rng_nat c5
    have tan := tn_nI (n := an) (by omega)
    refine J_aload_n C dX5_leaps_8 rfl rfl ?_
    refine J_iload_n C dX5_leaps_9 rfl rfl ?_
    refine J_callVz C (q0 := 0) (ci := 5) (N := 8) (As := [.int b]) (c_X5_isPool l Z _ A.1 hA.1 ok _) cw_RX5_89 wd_11_3 wd_11_4 rfl rfl rfl rfl (Nat.le_of_ble_eq_true rfl) rfl rfl (Nat.le_of_ble_eq_true rfl) (Nat.le_of_ble_eq_true rfl) dX5_leaps_10 (fun b10 x10 hp10 => ?_)
    obtain ⟨rfl, rfl⟩ := hp10
    refine J_if_ne_d C (tgt := 18) dX5_leaps_13 (by decide) (fun c13 => ?_) (fun c13 => ?_)
    · skip
      obtain ⟨bn, hbn, rfl⟩ := rng_nat c13
      have tbn := tn_nI (n := bn) (by omega)
      refine J_iload_n C dX5_leaps_18 rfl rfl ?_
      refine J_iconst C (v := (-1)) dX5_leaps_19 (by decide) ?_
      refine J_iconst C (v := nI 5) dX5_leaps_20 (by decide) ?_
      refine J_callSz C (As := [.int k, .int (-1), .int (nI 5)]) (c_X5_isWithin l Z _ _ _ _ (-1) (5) (by decide) (by decide)) cw_RX5_120 wd_4_23 rfl rfl (Nat.le_of_ble_eq_true rfl) rfl rfl (Nat.le_of_ble_eq_true rfl) (Nat.le_of_ble_eq_true rfl) dX5_leaps_21 (fun b21 x21 hp21 => ?_)
      obtain ⟨rfl, rfl⟩ := hp21
      refine J_if_ne_d C (tgt := 30) dX5_leaps_24 (by decide) (fun c24 => ?_) (fun c24 => ?_)
      · skip
        refine J_aload_n C dX5_leaps_30 rfl rfl ?_
        refine J_callVv C (q0 := 0) (ci := 5) (N := 8) (As := []) (c_X5_layLeaps l Z _ A.1 hA.1 ok) cw_RX5_216 wd_26_1 wd_26_2 rfl rfl rfl rfl (Nat.le_of_ble_eq_true rfl) rfl rfl (Nat.le_of_ble_eq_true rfl) (Nat.le_of_ble_eq_true rfl) dX5_leaps_31 (fun x31 hp31 => ?_)
        obtain ⟨hfl31, hrt31⟩ := hp31
        refine J_aload_n C dX5_leaps_34 rfl rfl ?_
        refine G5_route C wd_2_3 dX5_leaps_35 ?_
        refine J_iload_n C dX5_leaps_38 rfl rfl ?_
        refine J_iload_n C dX5_leaps_39 rfl rfl ?_
        refine J_callVv C (q0 := 15) (ci := 2) (N := 6) (As := [.int (nI an), .int (nI bn)]) (c_X2_find l Z _ hrt31 (by omega) (by omega) nbL_lt _ _ han hbn) cw_RX5_219 wd_26_19 wd_26_20 rfl rfl rfl rfl (Nat.le_of_ble_eq_true rfl) rfl rfl (Nat.le_of_ble_eq_true rfl) (Nat.le_of_ble_eq_true rfl) dX5_leaps_40 (fun x40 hp40 => ?_)
        obtain ⟨hfr40, hln40, hrw40⟩ := hp40
        refine J_iload_n C dX5_leaps_43 rfl rfl ?_
        refine J_if_ne C (tgt := 61) dX5_leaps_44 (by decide) (fun c44 => ?_) (fun c44 => ?_)
        · skip
          refine J_iload_n C dX5_leaps_61 rfl rfl ?_
          refine J_if_ge C (tgt := 75) dX5_leaps_62 (by decide) (fun c62 => ?_) (fun c62 => ?_)
          · skip
            refine J_aload_n C dX5_leaps_75 rfl rfl ?_
            refine G5_route C wd_2_3 dX5_leaps_76 ?_
            refine J_iload_n C dX5_leaps_79 rfl rfl ?_
            refine J_iconst C (v := nI 1) dX5_leaps_80 (by decide) ?_
            refine J_isub C (v := k - nI 1) dX5_leaps_81 (rfl) ?_
            refine J_callVi C (q0 := 15) (ci := 2) (N := 6) (As := [.int (k - nI 1)]) (c_X2_moveAt l Z _ hln40 (fl_le _ _) _ hrw40) cw_RX5_226 wd_27_8 wd_27_9 rfl rfl rfl rfl (Nat.le_of_ble_eq_true rfl) rfl rfl (Nat.le_of_ble_eq_true rfl) (Nat.le_of_ble_eq_true rfl) dX5_leaps_82 (fun r82 x82 hp82 => ?_)
            obtain ⟨rfl, rfl⟩ := hp82
            exact E dX5_leaps_85 (⟨by rw [R_leaps, if_pos c5, if_pos c13, if_pos c24, tan, tbn]; exact lp_c c24 c44 c62, (hfl31.tr hfr40).abs hA⟩)
          · skip
            refine J_aload_n C dX5_leaps_65 rfl rfl ?_
            refine G5_route C wd_2_3 dX5_leaps_66 ?_
            refine G2_length C wd_25_23 dX5_leaps_69 ?_
            rw [show x40.1 20 = less1 (FLp A.1 bn an) from hln40]
            refine J_goto (tgt := 85) C dX5_leaps_72 (by decide) ?_
            exact E dX5_leaps_85 (⟨by rw [R_leaps, if_pos c5, if_pos c13, if_pos c24, tan, tbn]; exact (if_pos (lt0_i c62)).symm, (hfl31.tr hfr40).abs hA⟩)
        · skip
          refine J_aload_n C dX5_leaps_47 rfl rfl ?_
          refine G5_route C wd_2_3 dX5_leaps_48 ?_
          refine G2_length C wd_25_23 dX5_leaps_51 ?_
          rw [show x40.1 20 = less1 (FLp A.1 bn an) from hln40]
          refine J_bipush C (v := (-9)) dX5_leaps_54 (by decide) ?_
          refine J_icmp_eq C (tgt := 61) dX5_leaps_56 (by decide) (fun c56 => ?_) (fun c56 => ?_)
          · skip
            refine J_iload_n C dX5_leaps_61 rfl rfl ?_
            refine J_if_ge C (tgt := 75) dX5_leaps_62 (by decide) (fun c62 => ?_) (fun c62 => ?_)
            · skip
              refine J_aload_n C dX5_leaps_75 rfl rfl ?_
              refine G5_route C wd_2_3 dX5_leaps_76 ?_
              refine J_iload_n C dX5_leaps_79 rfl rfl ?_
              refine J_iconst C (v := nI 1) dX5_leaps_80 (by decide) ?_
              refine J_isub C (v := k - nI 1) dX5_leaps_81 (rfl) ?_
              refine J_callVi C (q0 := 15) (ci := 2) (N := 6) (As := [.int (k - nI 1)]) (c_X2_moveAt l Z _ hln40 (fl_le _ _) _ hrw40) cw_RX5_226 wd_27_8 wd_27_9 rfl rfl rfl rfl (Nat.le_of_ble_eq_true rfl) rfl rfl (Nat.le_of_ble_eq_true rfl) (Nat.le_of_ble_eq_true rfl) dX5_leaps_82 (fun r82 x82 hp82 => ?_)
              obtain ⟨rfl, rfl⟩ := hp82
              exact E dX5_leaps_85 (⟨by rw [R_leaps, if_pos c5, if_pos c13, if_pos c24, tan, tbn]; exact lp_d c44 c56, (hfl31.tr hfr40).abs hA⟩)
            · skip
              refine J_aload_n C dX5_leaps_65 rfl rfl ?_
              refine G5_route C wd_2_3 dX5_leaps_66 ?_
              refine G2_length C wd_25_23 dX5_leaps_69 ?_
              rw [show x40.1 20 = less1 (FLp A.1 bn an) from hln40]
              refine J_goto (tgt := 85) C dX5_leaps_72 (by decide) ?_
              exact E dX5_leaps_85 (⟨by rw [R_leaps, if_pos c5, if_pos c13, if_pos c24, tan, tbn]; exact (if_pos (lt0_i c62)).symm, (hfl31.tr hfr40).abs hA⟩)
          · skip
            refine J_iload_n C dX5_leaps_59 rfl rfl ?_
            exact E dX5_leaps_60 (⟨by rw [R_leaps, if_pos c5, if_pos c13, if_pos c24, tan, tbn]; exact lp_a (k := k) c44 (fun e => c56 ((less1_9 (fl_leL _ _ _ _)).mpr e)), (hfl31.tr hfr40).abs hA⟩)
      · skip
        refine J_bipush C (v := (-2)) dX5_leaps_27 (by decide) ?_
        exact E dX5_leaps_29 (⟨by rw [R_leaps, if_pos c5, if_pos c13, if_neg c24], hA⟩)
    · skip
      refine J_iconst C (v := (-1)) dX5_leaps_16 (by decide) ?_
      exact E dX5_leaps_17 (⟨by rw [R_leaps, if_pos c5, if_neg c13], hA⟩)
def rm_X5_elect : Room := ({ frames := 4, cells := 0, slots := 0, locals := 94 })
set_option maxRecDepth 20000 in
theorem c_X5_elect (l : Launch) (Z : EC) (x : St) (A : AB) (hA : AbsC x A) (hk : AOK A) (m q k : Int32) : MIi l Z (wC Z) yX5_elect cX5_elect 4 rm_X5_elect [.ref (Z.2.1 0), .int m, .int q, .int k] x (fun r x1 => r = R_elect A m q k ∧ AbsC x1 A) := by
  obtain ⟨⟨hcur, htr, hne, hr⟩, hH, hR, hT, hF⟩ := id hA
  obtain ⟨ok, hkH, hkR, hkr⟩ := id hk
  obtain ⟨ok0, ok1, ok2, ok3, ok4, ok5, ok6, ok7⟩ := id ok
  refine MIi_of (own := RX5) (L0 := [some (.ref (Z.2.1 0)), some (.int m), some (.int q), some (.int k)]) (by decide) rfl (Nat.le_of_ble_eq_true rfl) ⟨rfl, rfl, rfl, rfl, trivial⟩ ?_
  intro Γ C E
  refine J_aload_n C dX5_elect_0 rfl rfl ?_
  refine J_iload_n C dX5_elect_1 rfl rfl ?_
  refine J_callVz C (q0 := 0) (ci := 5) (N := 8) (As := [.int m]) (c_X5_isMember l Z _ A.1 hA.1 ok _) cw_RX5_105 wd_13_2 wd_13_3 rfl rfl rfl rfl (Nat.le_of_ble_eq_true rfl) rfl rfl (Nat.le_of_ble_eq_true rfl) (Nat.le_of_ble_eq_true rfl) dX5_elect_2 (fun b2 x2 hp2 => ?_)
  obtain ⟨rfl, rfl⟩ := hp2
  refine J_if_eq_d C (tgt := 16) dX5_elect_5 (by decide) (fun c5 => ?_) (fun c5 => ?_)
  · skip
    refine J_iconst C (v := (-1)) dX5_elect_16 (by decide) ?_
    exact E dX5_elect_17 (⟨by rw [R_elect, if_neg c5], hA⟩)
  · skip
    obtain ⟨mn, hmn, rfl⟩ := rng_nat c5
    have tnm := tn_nI (n := mn) (by omega)
    have gm := ok6 mn hmn
    have hs1 := ok7 (by omega)
    refine J_aload_n C dX5_elect_8 rfl rfl ?_
    refine J_iload_n C dX5_elect_9 rfl rfl ?_
    refine J_callVz C (q0 := 0) (ci := 5) (N := 8) (As := [.int q]) (c_X5_isPool l Z _ A.1 hA.1 ok _) cw_RX5_89 wd_11_3 wd_11_4 rfl rfl rfl rfl (Nat.le_of_ble_eq_true rfl) rfl rfl (Nat.le_of_ble_eq_true rfl) (Nat.le_of_ble_eq_true rfl) dX5_elect_10 (fun b10 x10 hp10 => ?_)
    obtain ⟨rfl, rfl⟩ := hp10
    refine J_if_ne_d C (tgt := 18) dX5_elect_13 (by decide) (fun c13 => ?_) (fun c13 => ?_)
    · skip
      obtain ⟨qn, hqn, rfl⟩ := rng_nat c13
      have tqn := tn_nI (n := qn) (by omega)
      refine J_iload_n C dX5_elect_18 rfl rfl ?_
      refine J_iconst C (v := (-1)) dX5_elect_19 (by decide) ?_
      refine J_iconst C (v := nI 4) dX5_elect_20 (by decide) ?_
      refine J_callSz C (As := [.int k, .int (-1), .int (nI 4)]) (c_X5_isWithin l Z _ _ _ _ (-1) (4) (by decide) (by decide)) cw_RX5_120 wd_4_23 rfl rfl (Nat.le_of_ble_eq_true rfl) rfl rfl (Nat.le_of_ble_eq_true rfl) (Nat.le_of_ble_eq_true rfl) dX5_elect_21 (fun b21 x21 hp21 => ?_)
      obtain ⟨rfl, rfl⟩ := hp21
      refine J_if_ne_d C (tgt := 30) dX5_elect_24 (by decide) (fun c24 => ?_) (fun c24 => ?_)
      · skip
        refine J_aload_n C dX5_elect_30 rfl rfl ?_
        refine J_aload_n C dX5_elect_31 rfl rfl ?_
        refine G5_shore C wd_2_7 dX5_elect_32 ?_
        rw [show x.2.2.1 = x.2.2.1 from rfl]
        refine G4_kindOf hcur C wd_12_22 dX5_elect_35 ?_
        refine J_iload_n C dX5_elect_38 rfl rfl ?_
        refine L4n_kindOf hcur hr ok C (by omega) dX5_elect_39 ?_
        refine J_callVv C (q0 := 0) (ci := 5) (N := 8) (As := [.int (nI (A.1.2 2 mn))]) (c_X5_layTides l Z _ A.1 hA.1 ok _ gm.1) cw_RX5_239 wd_28_8 wd_28_9 rfl rfl rfl rfl (Nat.le_of_ble_eq_true rfl) rfl rfl (Nat.le_of_ble_eq_true rfl) (Nat.le_of_ble_eq_true rfl) dX5_elect_40 (fun x40 hp40 => ?_)
        obtain ⟨hfl40, hrt40⟩ := hp40
        refine J_aload_n C dX5_elect_43 rfl rfl ?_
        refine G5_route C wd_2_3 dX5_elect_44 ?_
        refine J_aload_n C dX5_elect_47 rfl rfl ?_
        refine G5_shore C wd_2_7 dX5_elect_48 ?_
        rw [show x40.2.2.1 = x.2.2.1 from by rw [hfl40.1]]
        refine G4_seats hcur C wd_12_23 dX5_elect_51 ?_
        refine J_iload_n C dX5_elect_54 rfl rfl ?_
        refine L4n_seats hcur (hfl40.sh hr) ok C (by omega) dX5_elect_55 ?_
        refine J_iload_n C dX5_elect_56 rfl rfl ?_
        refine J_callVv C (q0 := 15) (ci := 2) (N := 6) (As := [.int (nI (A.1.2 3 mn)), .int (nI qn)]) (c_X2_find l Z _ hrt40 (by omega) (by omega) nbT_lt _ _ gm.2.1 hqn) cw_RX5_219 wd_26_19 wd_26_20 rfl rfl rfl rfl (Nat.le_of_ble_eq_true rfl) rfl rfl (Nat.le_of_ble_eq_true rfl) (Nat.le_of_ble_eq_true rfl) dX5_elect_57 (fun x57 hp57 => ?_)
        obtain ⟨hfr57, hln57, hrw57⟩ := hp57
        refine J_iload_n C dX5_elect_60 rfl rfl ?_
        refine J_if_ge C (tgt := 74) dX5_elect_61 (by decide) (fun c61 => ?_) (fun c61 => ?_)
        · skip
          refine J_aload_n C dX5_elect_74 rfl rfl ?_
          refine G5_route C wd_2_3 dX5_elect_75 ?_
          refine J_iload_n C dX5_elect_78 rfl rfl ?_
          refine J_callVi C (q0 := 15) (ci := 2) (N := 6) (As := [.int k]) (c_X2_moveAt l Z _ hln57 (fl_le _ _) _ hrw57) cw_RX5_226 wd_27_8 wd_27_9 rfl rfl rfl rfl (Nat.le_of_ble_eq_true rfl) rfl rfl (Nat.le_of_ble_eq_true rfl) (Nat.le_of_ble_eq_true rfl) dX5_elect_79 (fun r79 x79 hp79 => ?_)
          obtain ⟨rfl, rfl⟩ := hp79
          exact E dX5_elect_82 (⟨by rw [R_elect, if_pos c5, if_pos c13, if_pos c24, tnm, tqn]; exact el_c c24 c61, (hfl40.tr hfr57).abs hA⟩)
        · skip
          refine J_aload_n C dX5_elect_64 rfl rfl ?_
          refine G5_route C wd_2_3 dX5_elect_65 ?_
          refine G2_length C wd_25_23 dX5_elect_68 ?_
          rw [show x57.1 20 = less1 (FTd A.1 (A.1.2 2 mn) qn (A.1.2 3 mn)) from hln57]
          refine J_goto (tgt := 82) C dX5_elect_71 (by decide) ?_
          exact E dX5_elect_82 (⟨by rw [R_elect, if_pos c5, if_pos c13, if_pos c24, tnm, tqn]; exact (if_pos (lt0_i c61)).symm, (hfl40.tr hfr57).abs hA⟩)
      · skip
        refine J_bipush C (v := (-2)) dX5_elect_27 (by decide) ?_
        exact E dX5_elect_29 (⟨by rw [R_elect, if_pos c5, if_pos c13, if_neg c24], hA⟩)
    · skip
      refine J_iconst C (v := (-1)) dX5_elect_16 (by decide) ?_
      exact E dX5_elect_17 (⟨by rw [R_elect, if_pos c5, if_neg c13], hA⟩)
