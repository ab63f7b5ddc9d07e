def bm1 (a : SA) (v : Nat) : Int32 := if v = 0 then (-9) else nI (bestF a v).1
def bm2 (a : SA) (v : Nat) : Int32 := if v = 0 then (-9) else nI ((bestF a v).2 - 1)
theorem bm_no {a : SA} {v : Nat} (h : nI (pop (won a (fri a v))) ≤ bm2 a v) : v ≠ 0 ∧ ¬ (bestF a v).2 < pop (won a (fri a v)) + 1 := by
  have hp := pop_le (won a (fri a v))
  have hb := bestF_le a v
  unfold bm2 at h
  by_cases e : v = 0
  · rw [if_pos e, le_i, nI_i (by omega)] at h
    have : ((-9 : Int32)).toInt = -9 := by decide
    omega
  · rw [if_neg e, le_i, nI_i (by omega), nI_i (by omega)] at h
    have h1 := bestF_pos a v (by omega)
    exact ⟨e, by omega⟩
theorem bm_yes {a : SA} {v : Nat} (h : ¬ nI (pop (won a (fri a v))) ≤ bm2 a v) : (bestF a v).2 < pop (won a (fri a v)) + 1 := by
  have hp := pop_le (won a (fri a v))
  have hb := bestF_le a v
  unfold bm2 at h
  by_cases e : v = 0
  · subst e
    show 0 < _
    omega
  · rw [if_neg e, le_i, nI_i (by omega), nI_i (by omega)] at h
    omega
theorem bm_le1 {a : SA} {v : Nat} (h : nI (pop (won a (fri a v))) ≤ bm2 a v) : bm1 a (v + 1) = bm1 a v := by
  obtain ⟨h1, h2⟩ := bm_no h
  unfold bm1
  rw [if_neg h1, if_neg (by omega), bestF_no h2]
theorem bm_le2 {a : SA} {v : Nat} (h : nI (pop (won a (fri a v))) ≤ bm2 a v) : bm2 a (v + 1) = bm2 a v := by
  obtain ⟨h1, h2⟩ := bm_no h
  unfold bm2
  rw [if_neg h1, if_neg (by omega), bestF_no h2]
theorem bm_gt1 {a : SA} {v : Nat} (h : ¬ nI (pop (won a (fri a v))) ≤ bm2 a v) : bm1 a (v + 1) = nI v := by
  unfold bm1
  rw [if_neg (by omega), bestF_yes (bm_yes h)]
theorem bm_gt2 {a : SA} {v : Nat} (h : ¬ nI (pop (won a (fri a v))) ≤ bm2 a v) : bm2 a (v + 1) = nI (pop (won a (fri a v))) := by
  unfold bm2
  rw [if_neg (by omega), bestF_yes (bm_yes h)]
  rfl
theorem tn_a {a : SA} {f n : Nat} (h1 : n &&& f ≠ 0) : turnF a f (n + 1) = turnF a f n := by
  show (if _ then _ else _) = _
  rw [if_neg h1]
theorem tn_b {a : SA} {f n : Nat} (h1 : n &&& f = 0) (h2 : isLaw a (n ||| f) = false) : turnF a f (n + 1) = turnF a f n := by
  show (if _ then (if _ then _ else _) else _) = _
  rw [if_pos h1, if_neg (by rw [h2]; decide)]
theorem tn_c {a : SA} {f n : Nat} (h1 : n &&& f = 0) (h3 : turnF a f n ≠ 0) (h4 : pop (turnF a f n - 1) ≤ pop n) : turnF a f (n + 1) = turnF a f n := by
  by_cases h2 : isLaw a (n ||| f) = true
  · show (if _ then (if _ then (if _ then _ else (if _ then _ else _)) else _) else _) = _
    rw [if_pos h1, if_pos h2, if_neg h3, if_neg (show ¬ pop n < pop (turnF a f n - 1) by omega)]
  · show (if _ then (if _ then _ else _) else _) = _
    rw [if_pos h1, if_neg h2]
theorem drF_step {a : SA} (ok : SOK a) {q b : Nat} (hb : b ≤ 9) (hd : dsum a q (a.1 4) ≤ 9 * cnt (fun m => a.2 3 m == q) (a.1 4)) : nI (b + dsum a q (a.1 4)) / nI (1 + cnt (fun m => a.2 3 m == q) (a.1 4)) = nI (dri a q b) := by
  have hc := cnt_le (fun m => a.2 3 m == q) (a.1 4)
  have o4 := ok.2.2.2.2.1
  rw [pk_div (by omega) (by omega) (by omega)]
  show _ = nI ((b + dsum a q (a.1 4)) / (pop (sit a q) + 1))
  have e : pop (sit a q) = cnt (fun m => a.2 3 m == q) (a.1 4) := pop_bits (fun m => a.2 3 m == q) (a.1 4) o4
  rw [e, Nat.add_comm 1]
def F13m (x y : Mt) : Prop := (∀ i, i ≠ 27 → y.1 i = x.1 i) ∧ ∀ t, t ≠ 13 → y.2 t = x.2 t
theorem F13m.int {x : Mt} {v : Int32} : F13m x (mI x 27 v) := ⟨fun i hi => mI_ne hi, fun _ _ => rfl⟩
theorem F13m.tr {x y z : Mt} (h : F13m x y) (g : F13m y z) : F13m x z := ⟨fun i hi => (g.1 i hi).trans (h.1 i hi), fun t ht => (g.2 t ht).trans (h.2 t ht)⟩
theorem F13.m {x y : Mt} (h : F13 x y) : F13m x y := ⟨fun i _ => congrFun h.1 i, h.2⟩
theorem wet_yr (a : SA) (g : Nat → Nat) (j h : Nat) : wet (yr a g j) h = wet a h := by
  show bits (fun q => decide ((yr a g j).2 0 q < h)) ((yr a g j).1 3) = bits (fun q => decide (a.2 0 q < h)) (a.1 3)
  rw [yr_h, yr_1]
theorem MdR.frI {x y : Mt} {a : SA} {u : Nat} (h : MdR x a) (hI : y.1 = x.1) (hA : ∀ t, t ≠ u → y.2 t = x.2 t) (hu : u < 10 ∨ 15 ≤ u := by decide) : MdR y a := by
  obtain ⟨g0, g1, g2, g3, g4, g5, g6⟩ := h
  refine ⟨(congrFun hI _).trans g0, (congrFun hI _).trans g1, (congrFun hI _).trans g2, (congrFun hI _).trans g3, (congrFun hI _).trans g4, fun j hj => ?_, fun j hj => ?_⟩
  · rw [hA 10 (by omega), hA 11 (by omega)]; exact g5 j hj
  · rw [hA 12 (by omega), hA 13 (by omega), hA 14 (by omega)]; exact g6 j hj
theorem absM_yr {x z : Mt} {A : AB} (h : AbsM x A) (hI : ∀ i, i ≠ 27 → z.1 i = x.1 i) (hAr : ∀ t, t ≠ 13 → t ≠ 26 → z.2 t = x.2 t) (hp : ∀ q, q < A.1.1 4 → z.2 13 q = nI (A.1.2 3 q)) : AbsM z A := by
  obtain ⟨⟨g0, g1, g2, g3, g4, g5, g6⟩, m2, m3, m4, m5⟩ := h
  refine ⟨⟨(hI _ (by decide)).trans g0, (hI _ (by decide)).trans g1, (hI _ (by decide)).trans g2, (hI _ (by decide)).trans g3, (hI _ (by decide)).trans g4, fun j hj => ?_, fun j hj => ?_⟩, m2.same (fun t h1 h2 => hAr t (by omega) (by omega)), m3.same (hI 29 (by decide)) (fun t h1 h2 => hAr t (by omega) (by omega)), (hI _ (by decide)).trans m4, (hI _ (by decide)).trans m5⟩
  · rw [hAr 10 (by decide) (by decide), hAr 11 (by decide) (by decide)]; exact g5 j hj
  · obtain ⟨q1, q2, q3⟩ := g6 j hj
    rw [hAr 12 (by decide) (by decide), hAr 14 (by decide) (by decide)]
    exact ⟨q1, hp j hj, q3⟩
def tellT (b : SA) (mv w : Int32) : Int32 := if 20 ≤ w.toInt then b2i (isLaw b (fri b (tn w - 20))) else if 10 ≤ w.toInt then (if tn w - 10 < b.1 4 then nI (b.2 3 (tn w - 10)) else (-9)) else if w.toInt < 3 then (if w = nI 0 then mv else nI (satIn b)) else nI (full b (b.1 3))
theorem ge10 {w : Int32} (h : ¬ w < nI 10) : 10 ≤ w.toInt := by rw [lt_i, nI_i (by omega)] at h; omega
theorem lt10 {w : Int32} (h : w < nI 10) : ¬ 10 ≤ w.toInt := by rw [lt_i, nI_i (by omega)] at h; omega
theorem ge3 {w : Int32} (h : nI 3 ≤ w) : ¬ w.toInt < 3 := by rw [le_i, nI_i (by omega)] at h; omega
theorem lt3 {w : Int32} (h : ¬ nI 3 ≤ w) : w.toInt < 3 := by rw [le_i, nI_i (by omega)] at h; omega
theorem w1015b {w : Int32} (hw : yB w) (h20 : ¬ 20 ≤ w.toInt) (h10 : 10 ≤ w.toInt) : (10 : Int) ≤ w.toInt ∧ w.toInt ≤ 15 := by unfold yB at hw; omega
theorem yearT_1 {a : SA} {g : Nat → Nat} {n : Nat} {w : Int32} (h : w = nI 1) : yearT a g n w = wrT a g n := if_pos h
theorem yearT_w {a : SA} {g : Nat → Nat} {n : Nat} {w : Int32} (h : ¬ w = nI 1) (h2 : ¬ wrT a g n = (-9)) : yearT a g n w = (-100) - wrT a g n := by
  rw [yearT, if_neg h, if_pos (wrT_ne h2).1, (wrT_ne h2).2]
theorem told_eq {a b : SA} {g : Nat → Nat} {n : Nat} {w mv : Int32} (hw : yB w) (h : ¬ w = nI 1) (h2 : ¬ fwr a g n < n) (hb : b = yr a g n ∧ mv = nI (mvs a g n)) : tellT b mv w = yearT a g n w := by
  obtain ⟨rfl, rfl⟩ := hb
  rw [yearT, if_neg h, if_neg h2]
  by_cases e0 : w = nI 0
  · subst e0; rw [if_pos rfl]; rfl
  · rw [if_neg e0]
    unfold tellT endT
    by_cases e2 : w = nI 2
    · subst e2; rw [if_pos rfl]; rfl
    · rw [if_neg e2]
      by_cases e3 : w = nI 3
      · subst e3; rw [if_pos rfl]; rfl
      · rw [if_neg e3]
        by_cases e4 : 20 ≤ w.toInt
        · rw [if_pos e4, if_pos e4]
        · rw [if_neg e4, if_neg e4, if_pos (w1015 hw e0 h e2 e3 e4).1]

def rm_X6_best : Room := ({ frames := 2, cells := 0, slots := 0, locals := 47 })
set_option maxRecDepth 20000 in
theorem c_X6_best (l : Launch) (Z : EC) (x : Mt) (A : AB) (hA : AbsM x A) (hk : AOK A) (w : Int32) : MIi l Z (wM Z) yX6_best cX6_best 6 rm_X6_best [.ref (Z.2.1 0), .int w] x (fun r x1 => r = R_best A w ∧ AbsM x1 A) := by
  obtain ⟨hr, hH, hR, hT, hF⟩ := id hA
  obtain ⟨ok, hkH, hkR, hkr⟩ := id hk
  obtain ⟨ok0, ok1, ok2, ok3, ok4, ok5, ok6, ok7⟩ := id ok
  refine MIi_of (own := RX6) (L0 := [some (.ref (Z.2.1 0)), some (.int w), none, none, none, none]) (by decide) rfl (Nat.le_of_ble_eq_true rfl) ⟨rfl, rfl, trivial⟩ ?_
  intro Γ C E
  refine J_iload_n C dX6_best_0 rfl rfl ?_
  refine J_iconst C (v := nI 0) dX6_best_1 (by decide) ?_
  refine J_iconst C (v := nI 1) dX6_best_2 (by decide) ?_
  refine J_callSz C (As := [.int w, .int (nI 0), .int (nI 1)]) (c_X6_within l Z _ _ _ _ (0) (1) (by decide) (by decide)) cw_RX6_70 wd_8_21 rfl rfl (Nat.le_of_ble_eq_true rfl) rfl rfl (Nat.le_of_ble_eq_true rfl) (Nat.le_of_ble_eq_true rfl) dX6_best_3 (fun b3 x3 hp3 => ?_)
  obtain ⟨rfl, rfl⟩ := hp3
  refine J_if_ne_d C (tgt := 12) dX6_best_6 (by decide) (fun c6 => ?_) (fun c6 => ?_)
  · skip
    refine J_aload_n C dX6_best_12 rfl rfl ?_
    refine G6n_pools hr C wd_10_18 dX6_best_13 ?_
    refine J_if_ne_n C (tgt := 22) dX6_best_16 (by decide) (by omega) (fun c16 => ?_) (fun c16 => ?_)
    · skip
      refine J_bipush C (v := (-9)) dX6_best_22 (by decide) ?_
      refine J_istore_n C (L' := [some (.ref (Z.2.1 0)), some (.int w), some (.int (-9)), none, none, none]) dX6_best_24 rfl (by decide) rfl rfl ?_
      refine J_bipush C (v := (-9)) dX6_best_25 (by decide) ?_
      refine J_istore_n C (L' := [some (.ref (Z.2.1 0)), some (.int w), some (.int (-9)), some (.int (-9)), none, none]) dX6_best_27 rfl (by decide) rfl rfl ?_
      refine J_iconst C (v := nI 0) dX6_best_28 (by decide) ?_
      refine J_istore C (L' := [some (.ref (Z.2.1 0)), some (.int w), some (.int (-9)), some (.int (-9)), some (.int (nI 0)), none]) dX6_best_29 (by decide) rfl rfl ?_
      have lp31 : ∀ (f : Nat) (v : Nat), (v ≤ 10) → (10 - v < f) →  J Γ x 31 [some (.ref (Z.2.1 0)), some (.int w), some (.int (bm1 A.1 v)), some (.int (bm2 A.1 v)), some (.int (nI v)), none] [] := by
        intro f
        induction f with
        | zero =>
          intro v hv hf
          omega
        | succ f ih31 =>
          intro v hv hf
          have hbl := bestF_le A.1 v
          have hpp := pop_le (won A.1 (fri A.1 v))
          refine J_iload C dX6_best_31 rfl ?_
          refine J_bipush C (v := nI 10) dX6_best_33 (by decide) ?_
          refine J_icmp_ge_n C (tgt := 85) dX6_best_35 (by decide) (by omega) (by omega) (fun c35 => ?_) (fun c35 => ?_)
          · skip
            refine J_iload_n C dX6_best_85 rfl rfl ?_
            refine J_if_ne C (tgt := 93) dX6_best_86 (by decide) (fun c86 => ?_) (fun c86 => ?_)
            · skip
              refine J_iload_n C dX6_best_93 rfl rfl ?_
              exact E dX6_best_94 (⟨by rw [R_best, if_pos c6, if_neg c16, if_neg (show ¬ w = nI 0 from c86), show v = 10 by omega]; rfl, hA⟩)
            · skip
              refine J_iload_n C dX6_best_89 rfl rfl ?_
              refine J_goto (tgt := 94) C dX6_best_90 (by decide) ?_
              exact E dX6_best_94 (⟨by rw [R_best, if_pos c6, if_neg c16, if_pos (show w = nI 0 from c86), show v = 10 by omega]; rfl, hA⟩)
          · skip
            refine J_aload_n C dX6_best_38 rfl rfl ?_
            refine J_aload_n C dX6_best_39 rfl rfl ?_
            refine J_iload C dX6_best_40 rfl ?_
            refine J_callVi C (q0 := 0) (ci := 6) (N := 33) (As := [.int (nI v)]) (c_X6_ayesOf l Z _ A.1 hr ok _ (by omega)) cw_RX6_179 wd_19_23 wd_20_0 rfl rfl rfl rfl (Nat.le_of_ble_eq_true rfl) rfl rfl (Nat.le_of_ble_eq_true rfl) (Nat.le_of_ble_eq_true rfl) dX6_best_42 (fun r42 x42 hp42 => ?_)
            obtain ⟨rfl, rfl⟩ := hp42
            refine J_callVi C (q0 := 0) (ci := 6) (N := 33) (As := [.int (nI (fri A.1 v))]) (c_X6_passesBy l Z _ A.1 hr ok _ (fri64 ok v)) cw_RX6_172 wd_20_15 wd_20_16 rfl rfl rfl rfl (Nat.le_of_ble_eq_true rfl) rfl rfl (Nat.le_of_ble_eq_true rfl) (Nat.le_of_ble_eq_true rfl) dX6_best_45 (fun r45 x45 hp45 => ?_)
            obtain ⟨rfl, rfl⟩ := hp45
            refine J_callSi C (As := [.int (nI (won A.1 (fri A.1 v)))]) (c_X6_size l Z _ _ (won64 ok _)) cw_RX6_151 wd_12_16 rfl rfl (Nat.le_of_ble_eq_true rfl) rfl rfl (Nat.le_of_ble_eq_true rfl) (Nat.le_of_ble_eq_true rfl) dX6_best_48 (fun r48 x48 hp48 => ?_)
            obtain ⟨rfl, rfl⟩ := hp48
            refine J_istore C (L' := [some (.ref (Z.2.1 0)), some (.int w), some (.int (bm1 A.1 v)), some (.int (bm2 A.1 v)), some (.int (nI v)), some (.int (nI (pop (won A.1 (fri A.1 v)))))]) dX6_best_51 (by decide) rfl rfl ?_
            refine J_iload C dX6_best_53 rfl ?_
            refine J_iload_n C dX6_best_55 rfl rfl ?_
            refine J_icmp_le C (tgt := 64) dX6_best_56 (by decide) (fun c56 => ?_) (fun c56 => ?_)
            · skip
              refine J_iload_n C dX6_best_64 rfl rfl ?_
              refine J_istore_n C (L' := [some (.ref (Z.2.1 0)), some (.int w), some (.int (bm1 A.1 v)), some (.int (bm2 A.1 v)), some (.int (nI v)), some (.int (nI (pop (won A.1 (fri A.1 v)))))]) dX6_best_65 rfl (by decide) rfl rfl ?_
              refine J_iload C dX6_best_66 rfl ?_
              refine J_iload_n C dX6_best_68 rfl rfl ?_
              refine J_icmp_le C (tgt := 77) dX6_best_69 (by decide) (fun c69 => ?_) (fun c69 => absurd c56 c69)
              refine J_iload_n C dX6_best_77 rfl rfl ?_
              refine J_istore_n C (L' := [some (.ref (Z.2.1 0)), some (.int w), some (.int (bm1 A.1 v)), some (.int (bm2 A.1 v)), some (.int (nI v)), some (.int (nI (pop (won A.1 (fri A.1 v)))))]) dX6_best_78 rfl (by decide) rfl rfl ?_
              refine J_iinc C (v := nI (v + 1)) (L' := [some (.ref (Z.2.1 0)), some (.int w), some (.int (bm1 A.1 v)), some (.int (bm2 A.1 v)), some (.int (nI (v + 1))), some (.int (nI (pop (won A.1 (fri A.1 v)))))]) dX6_best_79 rfl (nI_1 _) (by decide) rfl rfl ?_
              refine J_goto (tgt := 31) C dX6_best_82 (by decide) ?_
              refine J_drop ?_ (ih31 (v + 1) (by omega) (by omega))
              exact ⟨rfl, rfl, by rw [bm_le1 c56], by rw [bm_le2 c56], rfl, trivial⟩
            · skip
              refine J_iload C dX6_best_59 rfl ?_
              refine J_goto (tgt := 65) C dX6_best_61 (by decide) ?_
              refine J_istore_n C (L' := [some (.ref (Z.2.1 0)), some (.int w), some (.int (nI v)), some (.int (bm2 A.1 v)), some (.int (nI v)), some (.int (nI (pop (won A.1 (fri A.1 v)))))]) dX6_best_65 rfl (by decide) rfl rfl ?_
              refine J_iload C dX6_best_66 rfl ?_
              refine J_iload_n C dX6_best_68 rfl rfl ?_
              refine J_icmp_le C (tgt := 77) dX6_best_69 (by decide) (fun c69 => absurd c69 c56) (fun c69 => ?_)
              refine J_iload C dX6_best_72 rfl ?_
              refine J_goto (tgt := 78) C dX6_best_74 (by decide) ?_
              refine J_istore_n C (L' := [some (.ref (Z.2.1 0)), some (.int w), some (.int (nI v)), some (.int (nI (pop (won A.1 (fri A.1 v))))), some (.int (nI v)), some (.int (nI (pop (won A.1 (fri A.1 v)))))]) dX6_best_78 rfl (by decide) rfl rfl ?_
              refine J_iinc C (v := nI (v + 1)) (L' := [some (.ref (Z.2.1 0)), some (.int w), some (.int (nI v)), some (.int (nI (pop (won A.1 (fri A.1 v))))), some (.int (nI (v + 1))), some (.int (nI (pop (won A.1 (fri A.1 v)))))]) dX6_best_79 rfl (nI_1 _) (by decide) rfl rfl ?_
              refine J_goto (tgt := 31) C dX6_best_82 (by decide) ?_
              refine J_drop ?_ (ih31 (v + 1) (by omega) (by omega))
              exact ⟨rfl, rfl, by rw [bm_gt1 c56], by rw [bm_gt2 c56], rfl, trivial⟩
      refine J_drop ?_ (lp31 (10 + 1) 0 (by omega) (by omega))
      exact ⟨rfl, rfl, rfl, rfl, rfl, trivial⟩
    · skip
      refine J_bipush C (v := (-3)) dX6_best_19 (by decide) ?_
      exact E dX6_best_21 (⟨by rw [R_best, if_pos c6, if_pos c16], hA⟩)
  · skip
    refine J_bipush C (v := (-2)) dX6_best_9 (by decide) ?_
    exact E dX6_best_11 (⟨by rw [R_best, if_neg c6], hA⟩)
def rm_X6_turn : Room := ({ frames := 3, cells := 0, slots := 0, locals := 68 })
set_option maxRecDepth 20000 in
theorem c_X6_turn (l : Launch) (Z : EC) (x : Mt) (A : AB) (hA : AbsM x A) (hk : AOK A) (v : Int32) : MIi l Z (wM Z) yX6_turn cX6_turn 5 rm_X6_turn [.ref (Z.2.1 0), .int v] x (fun r x1 => r = R_turn A v ∧ AbsM x1 A) := by
  obtain ⟨hr, hH, hR, hT, hF⟩ := id hA
  obtain ⟨ok, hkH, hkR, hkr⟩ := id hk
  obtain ⟨ok0, ok1, ok2, ok3, ok4, ok5, ok6, ok7⟩ := id ok
  have hpw := pow6 _ ok4
  have hpz := Nat.zero_le (2 ^ A.1.1 4)
  refine MIi_of (own := RX6) (L0 := [some (.ref (Z.2.1 0)), some (.int v), none, none, none]) (by decide) rfl (Nat.le_of_ble_eq_true rfl) ⟨rfl, rfl, trivial⟩ ?_
  intro Γ C E
  refine J_iload_n C dX6_turn_0 rfl rfl ?_
  refine J_callSz C (As := [.int v]) (c_X6_isDigit l Z _ _) cw_RX6_160 wd_14_17 rfl rfl (Nat.le_of_ble_eq_true rfl) rfl rfl (Nat.le_of_ble_eq_true rfl) (Nat.le_of_ble_eq_true rfl) dX6_turn_1 (fun b1 x1 hp1 => ?_)
  obtain ⟨rfl, rfl⟩ := hp1
  refine J_if_ne_d C (tgt := 10) dX6_turn_4 (by decide) (fun c4 => ?_) (fun c4 => ?_)
  · skip
    obtain ⟨vn, v0, v9, rfl⟩ := rng_nat2 (A := 0) (B := 9) (c4)
    have tnv := tn_nI (n := vn) (by omega)
    refine J_aload_n C dX6_turn_10 rfl rfl ?_
    refine G6n_pools hr C wd_10_18 dX6_turn_11 ?_
    refine J_if_ne_n C (tgt := 20) dX6_turn_14 (by decide) (by omega) (fun c14 => ?_) (fun c14 => ?_)
    · skip
      refine J_aload_n C dX6_turn_20 rfl rfl ?_
      refine J_iload_n C dX6_turn_21 rfl rfl ?_
      refine J_callVi C (q0 := 0) (ci := 6) (N := 33) (As := [.int (nI vn)]) (c_X6_ayesOf l Z _ A.1 hr ok _ (by omega)) cw_RX6_179 wd_19_23 wd_20_0 rfl rfl rfl rfl (Nat.le_of_ble_eq_true rfl) rfl rfl (Nat.le_of_ble_eq_true rfl) (Nat.le_of_ble_eq_true rfl) dX6_turn_22 (fun r22 x22 hp22 => ?_)
      obtain ⟨rfl, rfl⟩ := hp22
      refine J_istore_n C (L' := [some (.ref (Z.2.1 0)), some (.int (nI vn)), some (.int (nI (fri A.1 vn))), none, none]) dX6_turn_25 rfl (by decide) rfl rfl ?_
      refine J_bipush C (v := (-9)) dX6_turn_26 (by decide) ?_
      refine J_istore_n C (L' := [some (.ref (Z.2.1 0)), some (.int (nI vn)), some (.int (nI (fri A.1 vn))), some (.int (-9)), none]) dX6_turn_28 rfl (by decide) rfl rfl ?_
      refine J_iconst C (v := nI 0) dX6_turn_29 (by decide) ?_
      refine J_istore C (L' := [some (.ref (Z.2.1 0)), some (.int (nI vn)), some (.int (nI (fri A.1 vn))), some (.int (-9)), some (.int (nI 0))]) dX6_turn_30 (by decide) rfl rfl ?_
      have lp32 : ∀ (f : Nat) (n : Nat), (n ≤ 2 ^ A.1.1 4) → (2 ^ A.1.1 4 - n < f) →  J Γ x 32 [some (.ref (Z.2.1 0)), some (.int (nI vn)), some (.int (nI (fri A.1 vn))), some (.int (less1 (turnF A.1 (fri A.1 vn) n))), some (.int (nI n))] [] := by
        intro f
        induction f with
        | zero =>
          intro n hn hf
          omega
        | succ f ih32 =>
          intro n hn hf
          have htl := turnF_le A.1 (fri A.1 vn) n
          have hfr := fri64 ok vn
          refine J_iload C dX6_turn_32 rfl ?_
          refine J_iconst C (v := nI 1) dX6_turn_34 (by decide) ?_
          refine J_aload_n C dX6_turn_35 rfl rfl ?_
          refine G6n_members hr C wd_8_16 dX6_turn_36 ?_
          refine J_ishl C (v := nI (2 ^ A.1.1 4)) dX6_turn_39 (sh1 _ (by omega)) ?_
          refine J_icmp_ge_n C (tgt := 88) dX6_turn_40 (by decide) (by omega) (by omega) (fun c40 => ?_) (fun c40 => ?_)
          · skip
            refine J_iload_n C dX6_turn_88 rfl rfl ?_
            exact E dX6_turn_89 (⟨by rw [R_turn, if_pos c4, if_neg c14, tnv, show n = 2 ^ A.1.1 4 by omega], hA⟩)
          · skip
            refine J_iload C dX6_turn_43 rfl ?_
            refine J_iload_n C dX6_turn_45 rfl rfl ?_
            refine J_iand C (v := nI (n &&& (fri A.1 vn))) dX6_turn_46 (fa_and _ _) ?_
            have hand : n &&& fri A.1 vn ≤ n := Nat.and_le_left
            refine J_if_ne_n C (tgt := 82) dX6_turn_47 (by decide) (by omega) (fun c47 => ?_) (fun c47 => ?_)
            · skip
              refine J_iinc C (v := nI (n + 1)) (L' := [some (.ref (Z.2.1 0)), some (.int (nI vn)), some (.int (nI (fri A.1 vn))), some (.int (less1 (turnF A.1 (fri A.1 vn) n))), some (.int (nI (n + 1)))]) dX6_turn_82 rfl (nI_1 _) (by decide) rfl rfl ?_
              refine J_goto (tgt := 32) C dX6_turn_85 (by decide) ?_
              refine J_drop ?_ (ih32 (n + 1) (by omega) (by omega))
              exact ⟨rfl, rfl, rfl, by rw [tn_a c47], rfl, trivial⟩
            · skip
              refine J_iload_n C dX6_turn_50 rfl rfl ?_
              refine J_bipush C (v := (-9)) dX6_turn_51 (by decide) ?_
              refine J_icmp_eq C (tgt := 68) dX6_turn_53 (by decide) (fun c53 => ?_) (fun c53 => ?_)
              · skip
                have hT0 := less1_eq c53
                refine J_aload_n C dX6_turn_68 rfl rfl ?_
                refine J_iload_n C dX6_turn_69 rfl rfl ?_
                refine J_iload C dX6_turn_70 rfl ?_
                refine J_ior C (v := nI (n ||| fri A.1 vn)) dX6_turn_72 (by rw [fa_or, Nat.or_comm]) ?_
                refine J_callVz C (q0 := 0) (ci := 6) (N := 33) (As := [.int (nI (n ||| fri A.1 vn))]) (c_X6_isLawBy l Z _ A.1 hr ok _ (or64 (by omega) hfr)) cw_RX6_182 wd_21_13 wd_21_14 rfl rfl rfl rfl (Nat.le_of_ble_eq_true rfl) rfl rfl (Nat.le_of_ble_eq_true rfl) (Nat.le_of_ble_eq_true rfl) dX6_turn_73 (fun b73 x73 hp73 => ?_)
                obtain ⟨rfl, rfl⟩ := hp73
                refine J_if_eq_b C (tgt := 82) dX6_turn_76 (by decide) (fun c76 => ?_) (fun c76 => ?_)
                · skip
                  refine J_iinc C (v := nI (n + 1)) (L' := [some (.ref (Z.2.1 0)), some (.int (nI vn)), some (.int (nI (fri A.1 vn))), some (.int (less1 (turnF A.1 (fri A.1 vn) n))), some (.int (nI (n + 1)))]) dX6_turn_82 rfl (nI_1 _) (by decide) rfl rfl ?_
                  refine J_goto (tgt := 32) C dX6_turn_85 (by decide) ?_
                  refine J_drop ?_ (ih32 (n + 1) (by omega) (by omega))
                  exact ⟨rfl, rfl, rfl, by rw [tn_b c47 c76], rfl, trivial⟩
                · skip
                  refine J_iload C dX6_turn_79 rfl ?_
                  refine J_istore_n C (L' := [some (.ref (Z.2.1 0)), some (.int (nI vn)), some (.int (nI (fri A.1 vn))), some (.int (nI n)), some (.int (nI n))]) dX6_turn_81 rfl (by decide) rfl rfl ?_
                  refine J_iinc C (v := nI (n + 1)) (L' := [some (.ref (Z.2.1 0)), some (.int (nI vn)), some (.int (nI (fri A.1 vn))), some (.int (nI n)), some (.int (nI (n + 1)))]) dX6_turn_82 rfl (nI_1 _) (by decide) rfl rfl ?_
                  refine J_goto (tgt := 32) C dX6_turn_85 (by decide) ?_
                  refine J_drop ?_ (ih32 (n + 1) (by omega) (by omega))
                  exact ⟨rfl, rfl, rfl, by rw [← turn_a c47 c76 hT0], rfl, trivial⟩
              · skip
                have hT0 : turnF A.1 (fri A.1 vn) n ≠ 0 := fun e => c53 (by rw [e]; rfl)
                have hT1 : less1 (turnF A.1 (fri A.1 vn) n) = nI (turnF A.1 (fri A.1 vn) n - 1) := if_neg hT0
                rw [hT1]
                have hp1 := pop_le n
                have hp2 := pop_le (turnF A.1 (fri A.1 vn) n - 1)
                refine J_iload C dX6_turn_56 rfl ?_
                refine J_callSi C (As := [.int (nI n)]) (c_X6_size l Z _ _ (show n < 64 by omega)) cw_RX6_151 wd_12_16 rfl rfl (Nat.le_of_ble_eq_true rfl) rfl rfl (Nat.le_of_ble_eq_true rfl) (Nat.le_of_ble_eq_true rfl) dX6_turn_58 (fun r58 x58 hp58 => ?_)
                obtain ⟨rfl, rfl⟩ := hp58
                refine J_iload_n C dX6_turn_61 rfl rfl ?_
                refine J_callSi C (As := [.int (nI (turnF A.1 (fri A.1 vn) n - 1))]) (c_X6_size l Z _ _ (show turnF A.1 (fri A.1 vn) n - 1 < 64 by omega)) cw_RX6_151 wd_12_16 rfl rfl (Nat.le_of_ble_eq_true rfl) rfl rfl (Nat.le_of_ble_eq_true rfl) (Nat.le_of_ble_eq_true rfl) dX6_turn_62 (fun r62 x62 hp62 => ?_)
                obtain ⟨rfl, rfl⟩ := hp62
                refine J_icmp_ge_n C (tgt := 82) dX6_turn_65 (by decide) (by omega) (by omega) (fun c65 => ?_) (fun c65 => ?_)
                · skip
                  refine J_iinc C (v := nI (n + 1)) (L' := [some (.ref (Z.2.1 0)), some (.int (nI vn)), some (.int (nI (fri A.1 vn))), some (.int (nI (turnF A.1 (fri A.1 vn) n - 1))), some (.int (nI (n + 1)))]) dX6_turn_82 rfl (nI_1 _) (by decide) rfl rfl ?_
                  refine J_goto (tgt := 32) C dX6_turn_85 (by decide) ?_
                  refine J_drop ?_ (ih32 (n + 1) (by omega) (by omega))
                  exact ⟨rfl, rfl, rfl, by rw [tn_c c47 hT0 (by omega), hT1], rfl, trivial⟩
                · skip
                  refine J_aload_n C dX6_turn_68 rfl rfl ?_
                  refine J_iload_n C dX6_turn_69 rfl rfl ?_
                  refine J_iload C dX6_turn_70 rfl ?_
                  refine J_ior C (v := nI (n ||| fri A.1 vn)) dX6_turn_72 (by rw [fa_or, Nat.or_comm]) ?_
                  refine J_callVz C (q0 := 0) (ci := 6) (N := 33) (As := [.int (nI (n ||| fri A.1 vn))]) (c_X6_isLawBy l Z _ A.1 hr ok _ (or64 (by omega) hfr)) cw_RX6_182 wd_21_13 wd_21_14 rfl rfl rfl rfl (Nat.le_of_ble_eq_true rfl) rfl rfl (Nat.le_of_ble_eq_true rfl) (Nat.le_of_ble_eq_true rfl) dX6_turn_73 (fun b73 x73 hp73 => ?_)
                  obtain ⟨rfl, rfl⟩ := hp73
                  refine J_if_eq_b C (tgt := 82) dX6_turn_76 (by decide) (fun c76 => ?_) (fun c76 => ?_)
                  · skip
                    refine J_iinc C (v := nI (n + 1)) (L' := [some (.ref (Z.2.1 0)), some (.int (nI vn)), some (.int (nI (fri A.1 vn))), some (.int (nI (turnF A.1 (fri A.1 vn) n - 1))), some (.int (nI (n + 1)))]) dX6_turn_82 rfl (nI_1 _) (by decide) rfl rfl ?_
                    refine J_goto (tgt := 32) C dX6_turn_85 (by decide) ?_
                    refine J_drop ?_ (ih32 (n + 1) (by omega) (by omega))
                    exact ⟨rfl, rfl, rfl, by rw [tn_b c47 c76, hT1], rfl, trivial⟩
                  · skip
                    refine J_iload C dX6_turn_79 rfl ?_
                    refine J_istore_n C (L' := [some (.ref (Z.2.1 0)), some (.int (nI vn)), some (.int (nI (fri A.1 vn))), some (.int (nI n)), some (.int (nI n))]) dX6_turn_81 rfl (by decide) rfl rfl ?_
                    refine J_iinc C (v := nI (n + 1)) (L' := [some (.ref (Z.2.1 0)), some (.int (nI vn)), some (.int (nI (fri A.1 vn))), some (.int (nI n)), some (.int (nI (n + 1)))]) dX6_turn_82 rfl (nI_1 _) (by decide) rfl rfl ?_
                    refine J_goto (tgt := 32) C dX6_turn_85 (by decide) ?_
                    refine J_drop ?_ (ih32 (n + 1) (by omega) (by omega))
                    exact ⟨rfl, rfl, rfl, by rw [← turn_c c47 c76 hT0 (by omega)], rfl, trivial⟩
      refine J_drop ?_ (lp32 (2 ^ A.1.1 4 + 1) 0 (Nat.zero_le _) (by omega))
      exact ⟨rfl, rfl, rfl, rfl, rfl, trivial⟩
    · skip
      refine J_bipush C (v := (-3)) dX6_turn_17 (by decide) ?_
      exact E dX6_turn_19 (⟨by rw [R_turn, if_pos c4, if_pos c14], hA⟩)
  · skip
    refine J_bipush C (v := (-2)) dX6_turn_7 (by decide) ?_
    exact E dX6_turn_9 (⟨by rw [R_turn, if_neg c4], hA⟩)
def rm_X6_driftOf : Room := ({ frames := 0, cells := 0, slots := 0, locals := 0 })
set_option maxRecDepth 20000 in
theorem c_X6_driftOf (l : Launch) (Z : EC) (x : Mt) (a : SA) (hr : MdR x a) (ok : SOK a) (fi n : Nat) (hfi : fi + n ≤ 240) (hn : n ≤ 20) (g : Nat → Nat) (hg : ∀ j, j < n → x.2 4 (fi + j) = nI (g j) ∧ g j < a.1 3) (v : Nat) (hv : v ≤ 9) : MIi l Z (wM Z) yX6_driftOf cX6_driftOf 9 rm_X6_driftOf [.ref (Z.2.1 0), .int (nI v), .int (nI fi), .int (nI n)] x (fun r x1 => r = nI (drF a g v n) ∧ x = x1) := by
  obtain ⟨ok0, ok1, ok2, ok3, ok4, ok5, ok6, ok7⟩ := id ok
  refine MIi_of (own := RX6) (L0 := [some (.ref (Z.2.1 0)), some (.int (nI v)), some (.int (nI fi)), some (.int (nI n)), none, none, none, none, none]) (by decide) rfl (Nat.le_of_ble_eq_true rfl) ⟨rfl, rfl, rfl, rfl, trivial⟩ ?_
  intro Γ C E
  refine J_iload_n C dX6_driftOf_0 rfl rfl ?_
  refine J_istore C (L' := [some (.ref (Z.2.1 0)), some (.int (nI v)), some (.int (nI fi)), some (.int (nI n)), some (.int (nI v)), none, none, none, none]) dX6_driftOf_1 (by decide) rfl rfl ?_
  refine J_iconst C (v := nI 0) dX6_driftOf_3 (by decide) ?_
  refine J_istore C (L' := [some (.ref (Z.2.1 0)), some (.int (nI v)), some (.int (nI fi)), some (.int (nI n)), some (.int (nI v)), some (.int (nI 0)), none, none, none]) dX6_driftOf_4 (by decide) rfl rfl ?_
  have lp6 : ∀ (f : Nat) (j : Nat), (j ≤ n) → (n - j < f) →  J Γ x 6 [some (.ref (Z.2.1 0)), some (.int (nI v)), some (.int (nI fi)), some (.int (nI n)), some (.int (nI (drF a g v j))), some (.int (nI j)), none, none, none] [] := by
    intro f
    induction f with
    | zero =>
      intro j hj hf
      omega
    | succ f ih6 =>
      intro j hj hf
      have hdl := drF_le ok g hv j
      refine J_iload C dX6_driftOf_6 rfl ?_
      refine J_iload_n C dX6_driftOf_8 rfl rfl ?_
      refine J_icmp_ge_n C (tgt := 108) dX6_driftOf_9 (by decide) (by omega) (by omega) (fun c9 => ?_) (fun c9 => ?_)
      · skip
        refine J_iload C dX6_driftOf_108 rfl ?_
        exact E dX6_driftOf_110 (⟨by rw [show j = n by omega], rfl⟩)
      · skip
        have hgj := hg j (by omega)
        refine J_iconst C (v := nI 1) dX6_driftOf_12 (by decide) ?_
        refine J_istore C (L' := [some (.ref (Z.2.1 0)), some (.int (nI v)), some (.int (nI fi)), some (.int (nI n)), some (.int (nI (drF a g v j))), some (.int (nI j)), some (.int (nI 1)), none, none]) dX6_driftOf_13 (by decide) rfl rfl ?_
        refine J_iconst C (v := nI 0) dX6_driftOf_15 (by decide) ?_
        refine J_istore C (L' := [some (.ref (Z.2.1 0)), some (.int (nI v)), some (.int (nI fi)), some (.int (nI n)), some (.int (nI (drF a g v j))), some (.int (nI j)), some (.int (nI 1)), some (.int (nI 0)), none]) dX6_driftOf_16 (by decide) rfl rfl ?_
        have lp18 : ∀ (f : Nat) (i : Nat), (i ≤ a.1 4) → (a.1 4 - i < f) →  J Γ x 18 [some (.ref (Z.2.1 0)), some (.int (nI v)), some (.int (nI fi)), some (.int (nI n)), some (.int (nI (drF a g v j + dsum a (g j) i))), some (.int (nI j)), some (.int (nI (1 + cnt (fun m => a.2 3 m == g j) i))), some (.int (nI i)), none] [] := by
          intro f
          induction f with
          | zero =>
            intro i hi hf2
            omega
          | succ f ih18 =>
            intro i hi hf2
            have hcn := cnt_le (fun m => a.2 3 m == g j) i
            have hds := dsum_le ok (g j) i (by omega)
            refine J_iload C dX6_driftOf_18 rfl ?_
            refine J_aload_n C dX6_driftOf_20 rfl rfl ?_
            refine G6n_members hr C wd_8_16 dX6_driftOf_21 ?_
            refine J_icmp_ge_n C (tgt := 95) dX6_driftOf_24 (by decide) (by omega) (by omega) (fun c24 => ?_) (fun c24 => ?_)
            · skip
              refine J_iload C dX6_driftOf_95 rfl ?_
              refine J_iload C dX6_driftOf_97 rfl ?_
              refine J_idiv C (v := nI (drF a g v (j + 1))) dX6_driftOf_99 (nI_ne0 (by omega) (by omega)) (by rw [show i = a.1 4 by omega]; exact drF_step ok (by omega) (by rw [show i = a.1 4 by omega] at hds; exact hds)) ?_
              refine J_istore C (L' := [some (.ref (Z.2.1 0)), some (.int (nI v)), some (.int (nI fi)), some (.int (nI n)), some (.int (nI (drF a g v (j + 1)))), some (.int (nI j)), some (.int (nI (1 + cnt (fun m => a.2 3 m == g j) i))), some (.int (nI i)), none]) dX6_driftOf_100 (by decide) rfl rfl ?_
              refine J_iinc C (v := nI (j + 1)) (L' := [some (.ref (Z.2.1 0)), some (.int (nI v)), some (.int (nI fi)), some (.int (nI n)), some (.int (nI (drF a g v (j + 1)))), some (.int (nI (j + 1))), some (.int (nI (1 + cnt (fun m => a.2 3 m == g j) i))), some (.int (nI i)), none]) dX6_driftOf_102 rfl (nI_1 _) (by decide) rfl rfl ?_
              refine J_goto (tgt := 6) C dX6_driftOf_105 (by decide) ?_
              refine J_drop ?_ (ih6 (j + 1) (by omega) (by omega))
              exact ⟨rfl, rfl, rfl, rfl, rfl, rfl, trivial⟩
            · skip
              have g6 := ok6 i (by omega)
              refine J_aload_n C dX6_driftOf_27 rfl rfl ?_
              refine G6_poolOf C wd_4_0 dX6_driftOf_28 ?_
              refine J_iload C dX6_driftOf_31 rfl ?_
              refine LMn_poolOf hr ok C (by omega) dX6_driftOf_33 ?_
              refine J_aload_n C dX6_driftOf_34 rfl rfl ?_
              refine G6_cells C wd_3_20 dX6_driftOf_35 ?_
              refine J_iload_n C dX6_driftOf_38 rfl rfl ?_
              refine J_iload C dX6_driftOf_39 rfl ?_
              refine J_iadd C (v := nI (fi + j)) dX6_driftOf_41 (nI_add _ _) ?_
              refine LM_cells C (v := nI (g j)) (by omega) (hgj.1) dX6_driftOf_42 ?_
              refine J_icmp_ne_n C (tgt := 50) dX6_driftOf_43 (by decide) (by omega) (by omega) (fun c43 => ?_) (fun c43 => ?_)
              · skip
                refine J_iconst C (v := nI 0) dX6_driftOf_50 (by decide) ?_
                refine J_istore C (L' := [some (.ref (Z.2.1 0)), some (.int (nI v)), some (.int (nI fi)), some (.int (nI n)), some (.int (nI (drF a g v j + dsum a (g j) i))), some (.int (nI j)), some (.int (nI (1 + cnt (fun m => a.2 3 m == g j) i))), some (.int (nI i)), some (.int (nI 0))]) dX6_driftOf_51 (by decide) rfl rfl ?_
                refine J_iload C dX6_driftOf_53 rfl ?_
                refine J_iload C dX6_driftOf_55 rfl ?_
                refine J_if_eq C (tgt := 70) dX6_driftOf_57 (by decide) (fun c57 => ?_) (fun c57 => absurd (by decide) c57)
                refine J_iconst C (v := nI 0) dX6_driftOf_70 (by decide) ?_
                refine J_iadd C (v := nI (drF a g v j + dsum a (g j) (i + 1))) dX6_driftOf_71 (by rw [dsum_no c43]; exact nI_add _ 0) ?_
                refine J_istore C (L' := [some (.ref (Z.2.1 0)), some (.int (nI v)), some (.int (nI fi)), some (.int (nI n)), some (.int (nI (drF a g v j + dsum a (g j) (i + 1)))), some (.int (nI j)), some (.int (nI (1 + cnt (fun m => a.2 3 m == g j) i))), some (.int (nI i)), some (.int (nI 0))]) dX6_driftOf_72 (by decide) rfl rfl ?_
                refine J_iload C dX6_driftOf_74 rfl ?_
                refine J_iload C dX6_driftOf_76 rfl ?_
                refine J_if_eq C (tgt := 85) dX6_driftOf_78 (by decide) (fun c78 => ?_) (fun c78 => absurd (by decide) c78)
                refine J_iconst C (v := nI 0) dX6_driftOf_85 (by decide) ?_
                refine J_iadd C (v := nI (1 + cnt (fun m => a.2 3 m == g j) (i + 1))) dX6_driftOf_86 (by rw [cnt_no (by simpa using c43)]; exact nI_add _ 0) ?_
                refine J_istore C (L' := [some (.ref (Z.2.1 0)), some (.int (nI v)), some (.int (nI fi)), some (.int (nI n)), some (.int (nI (drF a g v j + dsum a (g j) (i + 1)))), some (.int (nI j)), some (.int (nI (1 + cnt (fun m => a.2 3 m == g j) (i + 1)))), some (.int (nI i)), some (.int (nI 0))]) dX6_driftOf_87 (by decide) rfl rfl ?_
                refine J_iinc C (v := nI (i + 1)) (L' := [some (.ref (Z.2.1 0)), some (.int (nI v)), some (.int (nI fi)), some (.int (nI n)), some (.int (nI (drF a g v j + dsum a (g j) (i + 1)))), some (.int (nI j)), some (.int (nI (1 + cnt (fun m => a.2 3 m == g j) (i + 1)))), some (.int (nI (i + 1))), some (.int (nI 0))]) dX6_driftOf_89 rfl (nI_1 _) (by decide) rfl rfl ?_
                refine J_goto (tgt := 18) C dX6_driftOf_92 (by decide) ?_
                refine J_drop ?_ (ih18 (i + 1) (by omega) (by omega))
                exact ⟨rfl, rfl, rfl, rfl, rfl, rfl, rfl, rfl, trivial⟩
              · skip
                refine J_iconst C (v := nI 1) dX6_driftOf_46 (by decide) ?_
                refine J_goto (tgt := 51) C dX6_driftOf_47 (by decide) ?_
                refine J_istore C (L' := [some (.ref (Z.2.1 0)), some (.int (nI v)), some (.int (nI fi)), some (.int (nI n)), some (.int (nI (drF a g v j + dsum a (g j) i))), some (.int (nI j)), some (.int (nI (1 + cnt (fun m => a.2 3 m == g j) i))), some (.int (nI i)), some (.int (nI 1))]) dX6_driftOf_51 (by decide) rfl rfl ?_
                refine J_iload C dX6_driftOf_53 rfl ?_
                refine J_iload C dX6_driftOf_55 rfl ?_
                refine J_if_eq C (tgt := 70) dX6_driftOf_57 (by decide) (fun c57 => absurd c57 (by decide)) (fun c57 => ?_)
                refine J_aload_n C dX6_driftOf_60 rfl rfl ?_
                refine G6_view C wd_4_1 dX6_driftOf_61 ?_
                refine J_iload C dX6_driftOf_64 rfl ?_
                refine LMn_view hr ok C (by omega) dX6_driftOf_66 ?_
                refine J_goto (tgt := 71) C dX6_driftOf_67 (by decide) ?_
                refine J_iadd C (v := nI (drF a g v j + dsum a (g j) (i + 1))) dX6_driftOf_71 (by rw [dsum_yes c43, ← Nat.add_assoc]; exact nI_add _ _) ?_
                refine J_istore C (L' := [some (.ref (Z.2.1 0)), some (.int (nI v)), some (.int (nI fi)), some (.int (nI n)), some (.int (nI (drF a g v j + dsum a (g j) (i + 1)))), some (.int (nI j)), some (.int (nI (1 + cnt (fun m => a.2 3 m == g j) i))), some (.int (nI i)), some (.int (nI 1))]) dX6_driftOf_72 (by decide) rfl rfl ?_
                refine J_iload C dX6_driftOf_74 rfl ?_
                refine J_iload C dX6_driftOf_76 rfl ?_
                refine J_if_eq C (tgt := 85) dX6_driftOf_78 (by decide) (fun c78 => absurd c78 (by decide)) (fun c78 => ?_)
                refine J_iconst C (v := nI 1) dX6_driftOf_81 (by decide) ?_
                refine J_goto (tgt := 86) C dX6_driftOf_82 (by decide) ?_
                refine J_iadd C (v := nI (1 + cnt (fun m => a.2 3 m == g j) (i + 1))) dX6_driftOf_86 (by rw [cnt_yes (by simpa using c43)]; exact nI_add _ 1) ?_
                refine J_istore C (L' := [some (.ref (Z.2.1 0)), some (.int (nI v)), some (.int (nI fi)), some (.int (nI n)), some (.int (nI (drF a g v j + dsum a (g j) (i + 1)))), some (.int (nI j)), some (.int (nI (1 + cnt (fun m => a.2 3 m == g j) (i + 1)))), some (.int (nI i)), some (.int (nI 1))]) dX6_driftOf_87 (by decide) rfl rfl ?_
                refine J_iinc C (v := nI (i + 1)) (L' := [some (.ref (Z.2.1 0)), some (.int (nI v)), some (.int (nI fi)), some (.int (nI n)), some (.int (nI (drF a g v j + dsum a (g j) (i + 1)))), some (.int (nI j)), some (.int (nI (1 + cnt (fun m => a.2 3 m == g j) (i + 1)))), some (.int (nI (i + 1))), some (.int (nI 1))]) dX6_driftOf_89 rfl (nI_1 _) (by decide) rfl rfl ?_
                refine J_goto (tgt := 18) C dX6_driftOf_92 (by decide) ?_
                refine J_drop ?_ (ih18 (i + 1) (by omega) (by omega))
                exact ⟨rfl, rfl, rfl, rfl, rfl, rfl, rfl, rfl, trivial⟩
        refine J_drop ?_ (lp18 (a.1 4 + 1) 0 (by omega) (by omega))
        exact ⟨rfl, rfl, rfl, rfl, rfl, rfl, rfl, rfl, trivial⟩
  refine J_drop ?_ (lp6 (n + 1) 0 (by omega) (by omega))
  exact ⟨rfl, rfl, rfl, rfl, rfl, rfl, trivial⟩
def rm_X6_drift : Room := ({ frames := 2, cells := 0, slots := 0, locals := 42 })
set_option maxRecDepth 20000 in
theorem c_X6_drift (l : Launch) (Z : EC) (x : Mt) (A : AB) (hA : AbsM x A) (hk : AOK A) (k la i n v w : Int32) : MIi l Z (wM Z) yX6_drift cX6_drift 11 rm_X6_drift [.ref (Z.2.1 0), .int k, .int la, .int i, .int n, .int v, .int w] x (fun r x1 => r = R_drift A k la i n v w ∧ AbsM x1 (N_drift A k la i n v w)) := by
  obtain ⟨hr, hH, hR, hT, hF⟩ := id hA
  obtain ⟨ok, hkH, hkR, hkr⟩ := id hk
  obtain ⟨ok0, ok1, ok2, ok3, ok4, ok5, ok6, ok7⟩ := id ok
  refine MIi_of (own := RX6) (L0 := [some (.ref (Z.2.1 0)), some (.int k), some (.int la), some (.int i), some (.int n), some (.int v), some (.int w), none, none, none, none]) (by decide) rfl (Nat.le_of_ble_eq_true rfl) ⟨rfl, rfl, rfl, rfl, rfl, rfl, rfl, trivial⟩ ?_
  intro Γ C E
  refine J_aload_n C dX6_drift_0 rfl rfl ?_
  refine J_iconst C (v := nI 0) dX6_drift_1 (by decide) ?_
  refine P6_fault C wd_8_14 dX6_drift_2 ?_
  have hAz := absM_F (v := nI 0) hA
  generalize mI x 0 (nI 0) = x0 at hAz ⊢
  obtain ⟨hr2o, hH2o, hR2o, hT2, hF2⟩ := id hAz
  first | have hr2 : MdR x0 A.1 := hr2o | have hr2 := hr2o
  first | have hH2 : MH x0 A.2.1 := hH2o | have hH2 := hH2o
  first | have hR2 : MR x0 A.2.2.1 := hR2o | have hR2 := hR2o
  refine J_iload_n C dX6_drift_5 rfl rfl ?_
  refine J_callSz C (As := [.int k]) (c_X6_isSheet l Z _ _) cw_RX6_83 wd_8_18 rfl rfl (Nat.le_of_ble_eq_true rfl) rfl rfl (Nat.le_of_ble_eq_true rfl) (Nat.le_of_ble_eq_true rfl) dX6_drift_6 (fun b6 x6 hp6 => ?_)
  obtain ⟨rfl, rfl⟩ := hp6
  refine J_if_ne_d C (tgt := 14) dX6_drift_9 (by decide) (fun c9 => ?_) (fun c9 => ?_)
  · skip
    obtain ⟨kn, k0, k3, rfl⟩ := rng_nat2 (A := 0) (B := 3) c9
    have hkn : kn < 4 := by omega
    have tnk := tn_nI (n := kn) (by omega)
    have gk := hkH kn hkn
    refine J_iload_n C dX6_drift_14 rfl rfl ?_
    refine J_callSz C (As := [.int la]) (c_X6_isSort l Z _ _) cw_RX6_87 wd_9_0 rfl rfl (Nat.le_of_ble_eq_true rfl) rfl rfl (Nat.le_of_ble_eq_true rfl) (Nat.le_of_ble_eq_true rfl) dX6_drift_15 (fun b15 x15 hp15 => ?_)
    obtain ⟨rfl, rfl⟩ := hp15
    refine J_if_eq_d C (tgt := 50) dX6_drift_18 (by decide) (fun c18 => ?_) (fun c18 => ?_)
    · skip
      refine J_bipush C (v := (-2)) dX6_drift_50 (by decide) ?_
      exact E dX6_drift_52 (⟨by rw [R_drift, if_pos c9, if_neg c18] <;> first | rfl | decide, by rw [N_drift, if_pos c9, if_neg c18]; exact hAz⟩)
    · skip
      refine J_iload C dX6_drift_21 rfl ?_
      refine J_iconst C (v := nI 0) dX6_drift_23 (by decide) ?_
      refine J_bipush C (v := nI 20) dX6_drift_24 (by decide) ?_
      refine J_callSz C (As := [.int n, .int (nI 0), .int (nI 20)]) (c_X6_within l Z _ _ _ _ (0) (20) (by decide) (by decide)) cw_RX6_70 wd_8_21 rfl rfl (Nat.le_of_ble_eq_true rfl) rfl rfl (Nat.le_of_ble_eq_true rfl) (Nat.le_of_ble_eq_true rfl) dX6_drift_26 (fun b26 x26 hp26 => ?_)
      obtain ⟨rfl, rfl⟩ := hp26
      refine J_if_eq_d C (tgt := 50) dX6_drift_29 (by decide) (fun c29 => ?_) (fun c29 => ?_)
      · skip
        refine J_bipush C (v := (-2)) dX6_drift_50 (by decide) ?_
        exact E dX6_drift_52 (⟨by rw [R_drift, if_pos c9, if_pos c18, if_neg c29] <;> first | rfl | decide, by rw [N_drift, if_pos c9, if_pos c18, if_neg c29]; exact hAz⟩)
      · skip
        refine J_iload C dX6_drift_32 rfl ?_
        refine J_callSz C (As := [.int v]) (c_X6_isDigit l Z _ _) cw_RX6_160 wd_14_17 rfl rfl (Nat.le_of_ble_eq_true rfl) rfl rfl (Nat.le_of_ble_eq_true rfl) (Nat.le_of_ble_eq_true rfl) dX6_drift_34 (fun b34 x34 hp34 => ?_)
        obtain ⟨rfl, rfl⟩ := hp34
        refine J_if_eq_d C (tgt := 50) dX6_drift_37 (by decide) (fun c37 => ?_) (fun c37 => ?_)
        · skip
          refine J_bipush C (v := (-2)) dX6_drift_50 (by decide) ?_
          exact E dX6_drift_52 (⟨by rw [R_drift, if_pos c9, if_pos c18, if_pos c29, if_neg c37] <;> first | rfl | decide, by rw [N_drift, if_pos c9, if_pos c18, if_pos c29, if_neg c37]; exact hAz⟩)
        · skip
          obtain ⟨vn, v0, v9, rfl⟩ := rng_nat2 (A := 0) (B := 9) (c37)
          have tnv := tn_nI (n := vn) (by omega)
          refine J_iload C dX6_drift_40 rfl ?_
          refine J_iconst C (v := nI 0) dX6_drift_42 (by decide) ?_
          refine J_iconst C (v := nI 1) dX6_drift_43 (by decide) ?_
          refine J_callSz C (As := [.int w, .int (nI 0), .int (nI 1)]) (c_X6_within l Z _ _ _ _ (0) (1) (by decide) (by decide)) cw_RX6_70 wd_8_21 rfl rfl (Nat.le_of_ble_eq_true rfl) rfl rfl (Nat.le_of_ble_eq_true rfl) (Nat.le_of_ble_eq_true rfl) dX6_drift_44 (fun b44 x44 hp44 => ?_)
          obtain ⟨rfl, rfl⟩ := hp44
          refine J_if_ne_d C (tgt := 53) dX6_drift_47 (by decide) (fun c47 => ?_) (fun c47 => ?_)
          · skip
            refine J_aload_n C dX6_drift_53 rfl rfl ?_
            refine J_iload_n C dX6_drift_54 rfl rfl ?_
            refine J_iload_n C dX6_drift_55 rfl rfl ?_
            refine J_iload_n C dX6_drift_56 rfl rfl ?_
            refine J_iload C dX6_drift_57 rfl ?_
            refine J_callVi C (q0 := 0) (ci := 6) (N := 33) (As := [.int (nI kn), .int la, .int i, .int n]) (c_X6_against l Z _ hkn A.2.1 hH2 gk.1 gk.2 _ _ _) cw_RX6_90 wd_9_3 wd_9_4 rfl rfl rfl rfl (Nat.le_of_ble_eq_true rfl) rfl rfl (Nat.le_of_ble_eq_true rfl) (Nat.le_of_ble_eq_true rfl) dX6_drift_59 (fun r59 x59 hp59 => ?_)
            obtain ⟨rfl, rfl⟩ := hp59
            refine J_istore C (L' := [some (.ref (Z.2.1 0)), some (.int (nI kn)), some (.int la), some (.int i), some (.int n), some (.int (nI vn)), some (.int w), some (.int (nI (rowF A.2.1 kn la i n))), none, none, none]) dX6_drift_62 (by decide) rfl rfl ?_
            refine J_iload C dX6_drift_64 rfl ?_
            have hrl := rowF_le A.2.1 kn la i n
            refine J_if_eq_n C (tgt := 76) dX6_drift_66 (by decide) (by omega) (fun c66 => ?_) (fun c66 => ?_)
            · skip
              rw [c66]
              obtain ⟨q1, q2, q3, q4, q5⟩ := rowF0 c66
              obtain ⟨nm, n0, n9, rfl⟩ := rng_nat2 (q := n) (A := 0) (B := 20) c29
              obtain ⟨im, i0, i9, rfl⟩ := rng_nat2 (q := i) (A := 0) (B := A.2.1.2.1 kn) ⟨q3, q4⟩
              have tni := tn_nI (n := im) (by omega)
              have tnn := tn_nI (n := nm) (by omega)
              rw [nI_i (by omega), nI_i (by omega)] at q5
              refine J_aload_n C dX6_drift_76 rfl rfl ?_
              refine G6n_pools hr2 C wd_10_18 dX6_drift_77 ?_
              refine J_if_ne_n C (tgt := 86) dX6_drift_80 (by decide) (by omega) (fun c80 => ?_) (fun c80 => ?_)
              · skip
                refine J_bipush C (v := nI 60) dX6_drift_86 (by decide) ?_
                refine J_iload_n C dX6_drift_88 rfl rfl ?_
                refine J_imul C (v := nI (60 * kn)) dX6_drift_89 (pk_mul _ _) ?_
                refine J_iload_n C dX6_drift_90 rfl rfl ?_
                refine J_iadd C (v := nI ((60 * kn) + im)) dX6_drift_91 (nI_add _ _) ?_
                refine J_istore C (L' := [some (.ref (Z.2.1 0)), some (.int (nI kn)), some (.int la), some (.int (nI im)), some (.int (nI nm)), some (.int (nI vn)), some (.int w), some (.int (nI 0)), some (.int (nI ((60 * kn) + im))), none, none]) dX6_drift_92 (by decide) rfl rfl ?_
                refine J_iconst C (v := nI 0) dX6_drift_94 (by decide) ?_
                refine J_istore C (L' := [some (.ref (Z.2.1 0)), some (.int (nI kn)), some (.int la), some (.int (nI im)), some (.int (nI nm)), some (.int (nI vn)), some (.int w), some (.int (nI 0)), some (.int (nI ((60 * kn) + im))), some (.int (nI 0)), none]) dX6_drift_95 (by decide) rfl rfl ?_
                have lp97 : ∀ (f : Nat) (j : Nat), (j ≤ nm) → (okC (A.2.1.2.2 kn) im j (A.1.1 3 - 1)) → (nm - j < f) →  J Γ x0 97 [some (.ref (Z.2.1 0)), some (.int (nI kn)), some (.int la), some (.int (nI im)), some (.int (nI nm)), some (.int (nI vn)), some (.int w), some (.int (nI 0)), some (.int (nI (60 * kn + im))), some (.int (nI j)), none] [] := by
                  intro f
                  induction f with
                  | zero =>
                    intro j hj hvj hf
                    omega
                  | succ f ih97 =>
                    intro j hj hvj hf
                    refine J_iload C dX6_drift_97 rfl ?_
                    refine J_iload C dX6_drift_99 rfl ?_
                    refine J_icmp_ge_n C (tgt := 129) dX6_drift_101 (by decide) (by omega) (by omega) (fun c101 => ?_) (fun c101 => ?_)
                    · skip
                      have hokj : okC (A.2.1.2.2 kn) im nm (A.1.1 3 - 1) := (show j = nm by omega) ▸ hvj
                      have hgg : ∀ j, j < nm → x0.2 4 (60 * kn + im + j) = nI ((fun j => tn (A.2.1.2.2 kn (im + j))) j) ∧ (fun j => tn (A.2.1.2.2 kn (im + j))) j < A.1.1 3 := (fun j hj => by rw [Nat.add_assoc, ((hH2 kn hkn).2 q1).2 (im + j) (by omega)]; have h9 := okC_nI hokj hj (by omega); exact ⟨h9.1, by have := h9.2; show tn _ < _; omega⟩)
                      refine J_iload C dX6_drift_129 rfl ?_
                      refine J_if_ne C (tgt := 145) dX6_drift_131 (by decide) (fun c131 => ?_) (fun c131 => ?_)
                      · skip
                        refine J_iconst C (v := nI 0) dX6_drift_145 (by decide) ?_
                        refine J_istore C (L' := [some (.ref (Z.2.1 0)), some (.int (nI kn)), some (.int la), some (.int (nI im)), some (.int (nI nm)), some (.int (nI vn)), some (.int w), some (.int (nI 0)), some (.int (nI (60 * kn + im))), some (.int (nI 0)), none]) dX6_drift_146 (by decide) rfl rfl ?_
                        refine J_iconst C (v := nI 0) dX6_drift_148 (by decide) ?_
                        refine J_istore C (L' := [some (.ref (Z.2.1 0)), some (.int (nI kn)), some (.int la), some (.int (nI im)), some (.int (nI nm)), some (.int (nI vn)), some (.int w), some (.int (nI 0)), some (.int (nI (60 * kn + im))), some (.int (nI 0)), some (.int (nI 0))]) dX6_drift_149 (by decide) rfl rfl ?_
                        have lp151 : ∀ (f : Nat) (b : Nat), (b ≤ 10) → (10 - b < f) →  J Γ x0 151 [some (.ref (Z.2.1 0)), some (.int (nI kn)), some (.int la), some (.int (nI im)), some (.int (nI nm)), some (.int (nI vn)), some (.int w), some (.int (nI 0)), some (.int (nI (60 * kn + im))), some (.int (nI (bits (fun b => decide (drF A.1 (fun j => tn (A.2.1.2.2 kn (im + j))) b nm = vn)) b))), some (.int (nI b))] [] := by
                          intro f
                          induction f with
                          | zero =>
                            intro b hb hf3
                            omega
                          | succ f ih151 =>
                            intro b hb hf3
                            refine J_iload C dX6_drift_151 rfl ?_
                            refine J_bipush C (v := nI 10) dX6_drift_153 (by decide) ?_
                            refine J_icmp_ge_n C (tgt := 192) dX6_drift_155 (by decide) (by omega) (by omega) (fun c155 => ?_) (fun c155 => ?_)
                            · skip
                              refine J_iload C dX6_drift_192 rfl ?_
                              exact E dX6_drift_194 (⟨by rw [R_drift, if_pos c9, if_pos c18, if_pos c29, if_pos c37, if_pos c47, tnk, if_pos c66, if_neg c80, tni, tnn, if_pos hokj, if_neg (show ¬ w = nI 0 from c131), tnv, show b = 10 by omega], by rw [N_drift, if_pos c9, if_pos c18, if_pos c29, if_pos c37, if_pos c47, tnk]; rw [c66]; exact hAz⟩)
                            · skip
                              refine J_iload C dX6_drift_158 rfl ?_
                              refine J_aload_n C dX6_drift_160 rfl rfl ?_
                              refine J_iload C dX6_drift_161 rfl ?_
                              refine J_iload C dX6_drift_163 rfl ?_
                              refine J_iload C dX6_drift_165 rfl ?_
                              refine J_callVi C (q0 := 0) (ci := 6) (N := 33) (As := [.int (nI b), .int (nI (60 * kn + im)), .int (nI nm)]) (c_X6_driftOf l Z _ A.1 hr2 ok _ nm (by omega) (by omega) (fun j => tn (A.2.1.2.2 kn (im + j))) hgg _ (by omega)) cw_RX6_195 wd_25_16 wd_25_17 rfl rfl rfl rfl (Nat.le_of_ble_eq_true rfl) rfl rfl (Nat.le_of_ble_eq_true rfl) (Nat.le_of_ble_eq_true rfl) dX6_drift_167 (fun r167 x167 hp167 => ?_)
                              obtain ⟨rfl, rfl⟩ := hp167
                              refine J_iload C dX6_drift_170 rfl ?_
                              have hdl := drF_le ok (fun j => tn (A.2.1.2.2 kn (im + j))) (v := b) (by omega) nm
                              refine J_icmp_ne_n C (tgt := 182) dX6_drift_172 (by decide) (by omega) (by omega) (fun c172 => ?_) (fun c172 => ?_)
                              · skip
                                refine J_iconst C (v := nI 0) dX6_drift_182 (by decide) ?_
                                refine J_ior C (v := nI (bits (fun b => decide (drF A.1 (fun j => tn (A.2.1.2.2 kn (im + j))) b nm = vn)) (b + 1))) dX6_drift_183 (or_no (p := (fun b => decide (drF A.1 (fun j => tn (A.2.1.2.2 kn (im + j))) b nm = vn))) (by simpa using c172)) ?_
                                refine J_istore C (L' := [some (.ref (Z.2.1 0)), some (.int (nI kn)), some (.int la), some (.int (nI im)), some (.int (nI nm)), some (.int (nI vn)), some (.int w), some (.int (nI 0)), some (.int (nI (60 * kn + im))), some (.int (nI (bits (fun b => decide (drF A.1 (fun j => tn (A.2.1.2.2 kn (im + j))) b nm = vn)) (b + 1)))), some (.int (nI b))]) dX6_drift_184 (by decide) rfl rfl ?_
                                refine J_iinc C (v := nI (b + 1)) (L' := [some (.ref (Z.2.1 0)), some (.int (nI kn)), some (.int la), some (.int (nI im)), some (.int (nI nm)), some (.int (nI vn)), some (.int w), some (.int (nI 0)), some (.int (nI (60 * kn + im))), some (.int (nI (bits (fun b => decide (drF A.1 (fun j => tn (A.2.1.2.2 kn (im + j))) b nm = vn)) (b + 1)))), some (.int (nI (b + 1)))]) dX6_drift_186 rfl (nI_1 _) (by decide) rfl rfl ?_
                                refine J_goto (tgt := 151) C dX6_drift_189 (by decide) ?_
                                refine J_drop ?_ (ih151 (b + 1) (by omega) (by omega))
                                exact ⟨rfl, rfl, rfl, rfl, rfl, rfl, rfl, rfl, rfl, rfl, rfl, trivial⟩
                              · skip
                                refine J_iconst C (v := nI 1) dX6_drift_175 (by decide) ?_
                                refine J_iload C dX6_drift_176 rfl ?_
                                refine J_ishl C (v := nI (2 ^ b)) dX6_drift_178 (sh1 _ (by omega)) ?_
                                refine J_goto (tgt := 183) C dX6_drift_179 (by decide) ?_
                                refine J_ior C (v := nI (bits (fun b => decide (drF A.1 (fun j => tn (A.2.1.2.2 kn (im + j))) b nm = vn)) (b + 1))) dX6_drift_183 (bits_or (p := (fun b => decide (drF A.1 (fun j => tn (A.2.1.2.2 kn (im + j))) b nm = vn))) (decide_eq_true c172)) ?_
                                refine J_istore C (L' := [some (.ref (Z.2.1 0)), some (.int (nI kn)), some (.int la), some (.int (nI im)), some (.int (nI nm)), some (.int (nI vn)), some (.int w), some (.int (nI 0)), some (.int (nI (60 * kn + im))), some (.int (nI (bits (fun b => decide (drF A.1 (fun j => tn (A.2.1.2.2 kn (im + j))) b nm = vn)) (b + 1)))), some (.int (nI b))]) dX6_drift_184 (by decide) rfl rfl ?_
                                refine J_iinc C (v := nI (b + 1)) (L' := [some (.ref (Z.2.1 0)), some (.int (nI kn)), some (.int la), some (.int (nI im)), some (.int (nI nm)), some (.int (nI vn)), some (.int w), some (.int (nI 0)), some (.int (nI (60 * kn + im))), some (.int (nI (bits (fun b => decide (drF A.1 (fun j => tn (A.2.1.2.2 kn (im + j))) b nm = vn)) (b + 1)))), some (.int (nI (b + 1)))]) dX6_drift_186 rfl (nI_1 _) (by decide) rfl rfl ?_
                                refine J_goto (tgt := 151) C dX6_drift_189 (by decide) ?_
                                refine J_drop ?_ (ih151 (b + 1) (by omega) (by omega))
                                exact ⟨rfl, rfl, rfl, rfl, rfl, rfl, rfl, rfl, rfl, rfl, rfl, trivial⟩
                        refine J_drop ?_ (lp151 (10 + 1) 0 (by omega) (by omega))
                        exact ⟨rfl, rfl, rfl, rfl, rfl, rfl, rfl, rfl, rfl, rfl, rfl, trivial⟩
                      · skip
                        refine J_aload_n C dX6_drift_134 rfl rfl ?_
                        refine J_iload C dX6_drift_135 rfl ?_
                        refine J_iload C dX6_drift_137 rfl ?_
                        refine J_iload C dX6_drift_139 rfl ?_
                        refine J_callVi C (q0 := 0) (ci := 6) (N := 33) (As := [.int (nI vn), .int (nI (60 * kn + im)), .int (nI nm)]) (c_X6_driftOf l Z _ A.1 hr2 ok _ nm (by omega) (by omega) (fun j => tn (A.2.1.2.2 kn (im + j))) hgg _ (by omega)) cw_RX6_195 wd_25_16 wd_25_17 rfl rfl rfl rfl (Nat.le_of_ble_eq_true rfl) rfl rfl (Nat.le_of_ble_eq_true rfl) (Nat.le_of_ble_eq_true rfl) dX6_drift_141 (fun r141 x141 hp141 => ?_)
                        obtain ⟨rfl, rfl⟩ := hp141
                        exact E dX6_drift_144 (⟨by rw [R_drift, if_pos c9, if_pos c18, if_pos c29, if_pos c37, if_pos c47, tnk, if_pos c66, if_neg c80, tni, tnn, if_pos hokj, if_pos (show w = nI 0 from c131), tnv], by rw [N_drift, if_pos c9, if_pos c18, if_pos c29, if_pos c37, if_pos c47, tnk]; rw [c66]; exact hAz⟩)
                    · skip
                      refine J_aload_n C dX6_drift_104 rfl rfl ?_
                      refine J_aload_n C dX6_drift_105 rfl rfl ?_
                      refine G6_cells C wd_3_20 dX6_drift_106 ?_
                      refine J_iload C dX6_drift_109 rfl ?_
                      refine J_iload C dX6_drift_111 rfl ?_
                      refine J_iadd C (v := nI ((60 * kn + im) + j)) dX6_drift_113 (nI_add _ _) ?_
                      refine LM_cells C (v := A.2.1.2.2 kn (im + j)) (by omega) (by rw [Nat.add_assoc]; exact ((hH2 kn hkn).2 q1).2 (im + j) (by omega)) dX6_drift_114 ?_
                      refine J_callVz C (q0 := 0) (ci := 6) (N := 33) (As := [.int (A.2.1.2.2 kn (im + j))]) (c_X6_isPool l Z _ A.1 hr2 ok _) cw_RX6_145 wd_12_8 wd_12_9 rfl rfl rfl rfl (Nat.le_of_ble_eq_true rfl) rfl rfl (Nat.le_of_ble_eq_true rfl) (Nat.le_of_ble_eq_true rfl) dX6_drift_115 (fun b115 x115 hp115 => ?_)
                      obtain ⟨rfl, rfl⟩ := hp115
                      refine J_if_ne_d C (tgt := 123) dX6_drift_118 (by decide) (fun c118 => ?_) (fun c118 => ?_)
                      · skip
                        refine J_iinc C (v := nI (j + 1)) (L' := [some (.ref (Z.2.1 0)), some (.int (nI kn)), some (.int la), some (.int (nI im)), some (.int (nI nm)), some (.int (nI vn)), some (.int w), some (.int (nI 0)), some (.int (nI (60 * kn + im))), some (.int (nI (j + 1))), none]) dX6_drift_123 rfl (nI_1 _) (by decide) rfl rfl ?_
                        refine J_goto (tgt := 97) C dX6_drift_126 (by decide) ?_
                        refine J_drop ?_ (ih97 (j + 1) (by omega) (fun q hq => by by_cases e : q = j; (rw [e]; have := c118; unfold pB at this; omega); (exact hvj q (by omega))) (by omega))
                        exact ⟨rfl, rfl, rfl, rfl, rfl, rfl, rfl, rfl, rfl, rfl, trivial⟩
                      · skip
                        refine J_iconst C (v := (-1)) dX6_drift_121 (by decide) ?_
                        exact E dX6_drift_122 (⟨by rw [R_drift, if_pos c9, if_pos c18, if_pos c29, if_pos c37, if_pos c47, tnk, if_pos c66, if_neg c80, tni, tnn, if_neg (fun h => c118 (by have := h j (by omega); unfold pB; omega))], by rw [N_drift, if_pos c9, if_pos c18, if_pos c29, if_pos c37, if_pos c47, tnk]; rw [c66]; exact hAz⟩)
                refine J_drop ?_ (lp97 (nm + 1) 0 (by omega) (fun j hj => absurd hj (Nat.not_lt_zero j)) (by omega))
                exact ⟨rfl, rfl, rfl, rfl, rfl, rfl, rfl, rfl, rfl, rfl, trivial⟩
              · skip
                refine J_bipush C (v := (-3)) dX6_drift_83 (by decide) ?_
                exact E dX6_drift_85 (⟨by rw [R_drift, if_pos c9, if_pos c18, if_pos c29, if_pos c37, if_pos c47, tnk, if_pos c66, if_pos c80] <;> rfl, by rw [N_drift, if_pos c9, if_pos c18, if_pos c29, if_pos c37, if_pos c47, tnk]; rw [c66]; exact hAz⟩)
            · skip
              refine J_aload_n C dX6_drift_69 rfl rfl ?_
              refine J_iload C dX6_drift_70 rfl ?_
              refine J_callVi C (q0 := 0) (ci := 6) (N := 33) (As := [.int (nI (rowF A.2.1 kn la i n))]) (c_X6_fails l Z _ (AsF A (nI 0)) hAz hk _) cw_RX6_94 wd_9_7 wd_9_8 rfl rfl rfl rfl (Nat.le_of_ble_eq_true rfl) rfl rfl (Nat.le_of_ble_eq_true rfl) (Nat.le_of_ble_eq_true rfl) dX6_drift_72 (fun r72 x72 hp72 => ?_)
              obtain ⟨rfl, hA72⟩ := hp72
              obtain ⟨hr72o, hH72o, hR72o, hT72, hF72⟩ := id hA72
              first | have hr72 : MdR x72 A.1 := hr72o | have hr72 := hr72o
              first | have hH72 : MH x72 A.2.1 := hH72o | have hH72 := hH72o
              first | have hR72 : MR x72 A.2.2.1 := hR72o | have hR72 := hR72o
              exact E dX6_drift_75 (⟨by rw [R_drift, if_pos c9, if_pos c18, if_pos c29, if_pos c37, if_pos c47, tnk, if_neg c66] <;> rfl, by rw [N_drift, if_pos c9, if_pos c18, if_pos c29, if_pos c37, if_pos c47, tnk]; exact hA72⟩)
          · skip
            refine J_bipush C (v := (-2)) dX6_drift_50 (by decide) ?_
            exact E dX6_drift_52 (⟨by rw [R_drift, if_pos c9, if_pos c18, if_pos c29, if_pos c37, if_neg c47] <;> first | rfl | decide, by rw [N_drift, if_pos c9, if_pos c18, if_pos c29, if_pos c37, if_neg c47]; exact hAz⟩)
  · skip
    refine J_iconst C (v := (-1)) dX6_drift_12 (by decide) ?_
    exact E dX6_drift_13 (⟨by rw [R_drift, if_neg c9] <;> first | rfl | decide, by rw [N_drift, if_neg c9]; exact hAz⟩)
def rm_X6_goYear : Room := ({ frames := 2, cells := 0, slots := 0, locals := 49 })
set_option maxRecDepth 20000 in
theorem c_X6_goYear (l : Launch) (Z : EC) (x : Mt) (a : SA) (hr : MdR x a) (ok : SOK a) (fi n : Nat) (hfi : fi + n ≤ 240) (hn : n ≤ 20) (g : Nat → Nat) (hg : ∀ j, j < n → x.2 4 (fi + j) = nI (g j) ∧ g j ≤ 9)  : MIi l Z (wM Z) yX6_goYear cX6_goYear 4 rm_X6_goYear [.ref (Z.2.1 0), .int (nI fi), .int (nI n)] x (fun r x1 => r = wrT a g n ∧ F13m x x1 ∧ ∃ b, SOK b ∧ b.1 = a.1 ∧ MdR x1 b ∧ (¬ fwr a g n < n → b = yr a g n ∧ x1.1 27 = nI (mvs a g n))) := by
  obtain ⟨ok0, ok1, ok2, ok3, ok4, ok5, ok6, ok7⟩ := id ok
  refine MIi_of (own := RX6) (L0 := [some (.ref (Z.2.1 0)), some (.int (nI fi)), some (.int (nI n)), none]) (by decide) rfl (Nat.le_of_ble_eq_true rfl) ⟨rfl, rfl, rfl, trivial⟩ ?_
  intro Γ C E
  refine J_aload_n C dX6_goYear_0 rfl rfl ?_
  refine J_iconst C (v := nI 0) dX6_goYear_1 (by decide) ?_
  refine P6_moved C wd_23_17 dX6_goYear_2 ?_
  refine J_iconst C (v := nI 0) dX6_goYear_5 (by decide) ?_
  refine J_istore_n C (L' := [some (.ref (Z.2.1 0)), some (.int (nI fi)), some (.int (nI n)), some (.int (nI 0))]) dX6_goYear_6 rfl (by decide) rfl rfl ?_
  have lp7 : ∀ (f : Nat) (j : Nat) (y : Mt), (j ≤ n) → (F13m x y) → (MdR y (yr a g j)) → (y.1 27 = nI (mvs a g j)) → (¬ fwr a g j < j) → (n - j < f) →  J Γ y 7 [some (.ref (Z.2.1 0)), some (.int (nI fi)), some (.int (nI n)), some (.int (nI j))] [] := by
    intro f
    induction f with
    | zero =>
      intro j y hj hyf hyr hym hv hf
      omega
    | succ f ih7 =>
      intro j y hj hyf hyr hym hv hf
      have hml := mvs_le ok g j
      have hmd := mvd_le (yr_ok ok g j) (g j)
      refine J_iload_n C dX6_goYear_7 rfl rfl ?_
      refine J_iload_n C dX6_goYear_8 rfl rfl ?_
      refine J_icmp_ge_n C (tgt := 56) dX6_goYear_9 (by decide) (by omega) (by omega) (fun c9 => ?_) (fun c9 => ?_)
      · skip
        refine J_bipush C (v := (-9)) dX6_goYear_56 (by decide) ?_
        exact E dX6_goYear_58 (⟨by rw [wrT, if_neg ((show j = n by omega) ▸ hv)], hyf, _, yr_ok ok g j, yr_1 a g j, hyr, fun _ => ⟨by rw [show j = n by omega], by rw [← show j = n by omega]; exact hym⟩⟩)
      · skip
        have hgj0 := hg j (by omega)
        have hgj : y.2 4 (fi + j) = nI (g j) ∧ g j ≤ 9 := ⟨(congrFun (hyf.2 4 (by decide)) _).trans hgj0.1, hgj0.2⟩
        refine J_aload_n C dX6_goYear_12 rfl rfl ?_
        refine J_aload_n C dX6_goYear_13 rfl rfl ?_
        refine G6_cells C wd_3_20 dX6_goYear_14 ?_
        refine J_iload_n C dX6_goYear_17 rfl rfl ?_
        refine J_iload_n C dX6_goYear_18 rfl rfl ?_
        refine J_iadd C (v := nI (fi + j)) dX6_goYear_19 (nI_add _ _) ?_
        refine LM_cells C (v := nI (g j)) (by omega) (hgj.1) dX6_goYear_20 ?_
        refine J_callVi C (q0 := 0) (ci := 6) (N := 33) (As := [.int (nI (g j))]) (c_X6_washedBy l Z _ (yr a g j) hyr (yr_ok ok g j) _ (by omega)) cw_RX6_163 wd_17_7 wd_17_8 rfl rfl rfl rfl (Nat.le_of_ble_eq_true rfl) rfl rfl (Nat.le_of_ble_eq_true rfl) (Nat.le_of_ble_eq_true rfl) dX6_goYear_21 (fun r21 x21 hp21 => ?_)
        obtain ⟨rfl, rfl⟩ := hp21
        have hwt : wet (yr a g j) (g j) < 64 := bits64 _ (yr_ok ok g j).2.2.2.1
        refine J_if_ne_n C (tgt := 29) dX6_goYear_24 (by decide) (by omega) (fun c24 => ?_) (fun c24 => ?_)
        · skip
          refine J_aload_n C dX6_goYear_29 rfl rfl ?_
          refine J_dup C dX6_goYear_30 rfl ?_
          refine G6_moved C wd_23_17 dX6_goYear_31 ?_
          rw [show y.1 27 = nI (mvs a g j) from hym]
          refine J_aload_n C dX6_goYear_34 rfl rfl ?_
          refine J_aload_n C dX6_goYear_35 rfl rfl ?_
          refine G6_cells C wd_3_20 dX6_goYear_36 ?_
          refine J_iload_n C dX6_goYear_39 rfl rfl ?_
          refine J_iload_n C dX6_goYear_40 rfl rfl ?_
          refine J_iadd C (v := nI (fi + j)) dX6_goYear_41 (nI_add _ _) ?_
          refine LM_cells C (v := nI (g j)) (by omega) (hgj.1) dX6_goYear_42 ?_
          refine J_callVi C (q0 := 0) (ci := 6) (N := 33) (As := [.int (nI (g j))]) (c_X6_carryAll l Z _ (yr a g j) hyr (yr_ok ok g j) _ (by omega)) cw_RX6_169 wd_19_3 wd_19_4 rfl rfl rfl rfl (Nat.le_of_ble_eq_true rfl) rfl rfl (Nat.le_of_ble_eq_true rfl) (Nat.le_of_ble_eq_true rfl) dX6_goYear_43 (fun r43 x43 hp43 => ?_)
          obtain ⟨rfl, hs43, hf43⟩ := hp43
          refine J_iadd C (v := nI (mvs a g (j + 1))) dX6_goYear_46 (nI_add _ _) ?_
          refine P6_moved C wd_23_17 dX6_goYear_47 ?_
          refine J_iinc C (v := nI (j + 1)) (L' := [some (.ref (Z.2.1 0)), some (.int (nI fi)), some (.int (nI n)), some (.int (nI (j + 1)))]) dX6_goYear_50 rfl (nI_1 _) (by decide) rfl rfl ?_
          refine J_goto (tgt := 7) C dX6_goYear_53 (by decide) ?_
          refine J_drop ?_ (ih7 (j + 1) (mI x43 27 (nI (mvs a g (j + 1)))) (by omega) ((hyf.tr hf43.m).tr F13m.int) (hs43.int (by omega)) mI_eq (fwr_go hv (by rw [← wet_yr a g j]; exact c24)) (by omega))
          exact ⟨rfl, rfl, rfl, rfl, trivial⟩
        · skip
          refine J_iload_n C dX6_goYear_27 rfl rfl ?_
          exact E dX6_goYear_28 (⟨by rw [wrT, fwr_stop hv (by rw [← wet_yr a g j]; exact c24) (by omega), if_pos (by omega)], hyf, _, yr_ok ok g j, yr_1 a g j, hyr, fun hn => absurd (by rw [fwr_stop hv (by rw [← wet_yr a g j]; exact c24) (by omega)]; omega) hn⟩)
  refine J_drop ?_ (lp7 (n + 1) 0 (mI x 27 (nI 0)) (by omega) F13m.int (hr.int (by omega)) mI_eq (Nat.not_lt_zero _) (by omega))
  exact ⟨rfl, rfl, rfl, rfl, trivial⟩
def rm_X6_tellYear : Room := ({ frames := 3, cells := 0, slots := 0, locals := 68 })
set_option maxRecDepth 20000 in
theorem c_X6_tellYear (l : Launch) (Z : EC) (x : Mt) (a : SA) (hr : MdR x a) (ok : SOK a) (hP : 0 < a.1 3) (w : Int32) (hw : yB w) : MIi l Z (wM Z) yX6_tellYear cX6_tellYear 4 rm_X6_tellYear [.ref (Z.2.1 0), .int w] x (fun r x1 => r = tellT a (x.1 27) w ∧ x = x1) := by
  obtain ⟨ok0, ok1, ok2, ok3, ok4, ok5, ok6, ok7⟩ := id ok
  refine MIi_of (own := RX6) (L0 := [some (.ref (Z.2.1 0)), some (.int w), none, none]) (by decide) rfl (Nat.le_of_ble_eq_true rfl) ⟨rfl, rfl, trivial⟩ ?_
  intro Γ C E
  refine J_iload_n C dX6_tellYear_0 rfl rfl ?_
  refine J_bipush C (v := nI 20) dX6_tellYear_1 (by decide) ?_
  refine J_icmp_lt C (tgt := 27) dX6_tellYear_3 (by decide) (fun c3 => ?_) (fun c3 => ?_)
  · skip
    refine J_iload_n C dX6_tellYear_27 rfl rfl ?_
    refine J_bipush C (v := nI 10) dX6_tellYear_28 (by decide) ?_
    refine J_icmp_lt C (tgt := 59) dX6_tellYear_30 (by decide) (fun c30 => ?_) (fun c30 => ?_)
    · skip
      refine J_iload_n C dX6_tellYear_59 rfl rfl ?_
      refine J_iconst C (v := nI 3) dX6_tellYear_60 (by decide) ?_
      refine J_icmp_ge C (tgt := 80) dX6_tellYear_61 (by decide) (fun c61 => ?_) (fun c61 => ?_)
      · skip
        refine J_iconst C (v := nI 0) dX6_tellYear_80 (by decide) ?_
        refine J_istore_n C (L' := [some (.ref (Z.2.1 0)), some (.int w), some (.int (nI 0)), none]) dX6_tellYear_81 rfl (by decide) rfl rfl ?_
        refine J_iconst C (v := nI 1) dX6_tellYear_82 (by decide) ?_
        refine J_istore_n C (L' := [some (.ref (Z.2.1 0)), some (.int w), some (.int (nI 0)), some (.int (nI 1))]) dX6_tellYear_83 rfl (by decide) rfl rfl ?_
        have lp84 : ∀ (f : Nat) (i : Nat), (i ≤ a.1 3) → (1 ≤ i) → (a.1 3 - i < f) →  J Γ x 84 [some (.ref (Z.2.1 0)), some (.int w), some (.int (nI (full a i))), some (.int (nI i))] [] := by
          intro f
          induction f with
          | zero =>
            intro i hi hi1 hf
            omega
          | succ f ih84 =>
            intro i hi hi1 hf
            have hfl := full_lt a hi1
            have hp1 := pop_le (sit a i)
            have hp2 := pop_le (sit a (full a i))
            refine J_iload_n C dX6_tellYear_84 rfl rfl ?_
            refine J_aload_n C dX6_tellYear_85 rfl rfl ?_
            refine G6n_pools hr C wd_10_18 dX6_tellYear_86 ?_
            refine J_icmp_ge_n C (tgt := 123) dX6_tellYear_89 (by decide) (by omega) (by omega) (fun c89 => ?_) (fun c89 => ?_)
            · skip
              refine J_iload_n C dX6_tellYear_123 rfl rfl ?_
              exact E dX6_tellYear_124 (⟨by rw [tellT, if_neg (lt20 c3), if_neg (lt10 c30), if_neg (ge3 c61), show i = a.1 3 by omega], rfl⟩)
            · skip
              refine J_aload_n C dX6_tellYear_92 rfl rfl ?_
              refine J_iload_n C dX6_tellYear_93 rfl rfl ?_
              refine J_callVi C (q0 := 0) (ci := 6) (N := 33) (As := [.int (nI i)]) (c_X6_sitters l Z _ a hr ok _ (by omega)) cw_RX6_148 wd_12_12 wd_12_13 rfl rfl rfl rfl (Nat.le_of_ble_eq_true rfl) rfl rfl (Nat.le_of_ble_eq_true rfl) (Nat.le_of_ble_eq_true rfl) dX6_tellYear_94 (fun r94 x94 hp94 => ?_)
              obtain ⟨rfl, rfl⟩ := hp94
              refine J_callSi C (As := [.int (nI (sit a i))]) (c_X6_size l Z _ _ (sit64 ok _)) cw_RX6_151 wd_12_16 rfl rfl (Nat.le_of_ble_eq_true rfl) rfl rfl (Nat.le_of_ble_eq_true rfl) (Nat.le_of_ble_eq_true rfl) dX6_tellYear_97 (fun r97 x97 hp97 => ?_)
              obtain ⟨rfl, rfl⟩ := hp97
              refine J_aload_n C dX6_tellYear_100 rfl rfl ?_
              refine J_iload_n C dX6_tellYear_101 rfl rfl ?_
              refine J_callVi C (q0 := 0) (ci := 6) (N := 33) (As := [.int (nI (full a i))]) (c_X6_sitters l Z _ a hr ok _ (by omega)) cw_RX6_148 wd_12_12 wd_12_13 rfl rfl rfl rfl (Nat.le_of_ble_eq_true rfl) rfl rfl (Nat.le_of_ble_eq_true rfl) (Nat.le_of_ble_eq_true rfl) dX6_tellYear_102 (fun r102 x102 hp102 => ?_)
              obtain ⟨rfl, rfl⟩ := hp102
              refine J_callSi C (As := [.int (nI (sit a (full a i)))]) (c_X6_size l Z _ _ (sit64 ok _)) cw_RX6_151 wd_12_16 rfl rfl (Nat.le_of_ble_eq_true rfl) rfl rfl (Nat.le_of_ble_eq_true rfl) (Nat.le_of_ble_eq_true rfl) dX6_tellYear_105 (fun r105 x105 hp105 => ?_)
              obtain ⟨rfl, rfl⟩ := hp105
              refine J_icmp_le_n C (tgt := 115) dX6_tellYear_108 (by decide) (by omega) (by omega) (fun c108 => ?_) (fun c108 => ?_)
              · skip
                refine J_iload_n C dX6_tellYear_115 rfl rfl ?_
                refine J_istore_n C (L' := [some (.ref (Z.2.1 0)), some (.int w), some (.int (nI (full a i))), some (.int (nI i))]) dX6_tellYear_116 rfl (by decide) rfl rfl ?_
                refine J_iinc C (v := nI (i + 1)) (L' := [some (.ref (Z.2.1 0)), some (.int w), some (.int (nI (full a i))), some (.int (nI (i + 1)))]) dX6_tellYear_117 rfl (nI_1 _) (by decide) rfl rfl ?_
                refine J_goto (tgt := 84) C dX6_tellYear_120 (by decide) ?_
                refine J_drop ?_ (ih84 (i + 1) (by omega) (by omega) (by omega))
                exact ⟨rfl, rfl, full_noV (by omega), rfl, trivial⟩
              · skip
                refine J_iload_n C dX6_tellYear_111 rfl rfl ?_
                refine J_goto (tgt := 116) C dX6_tellYear_112 (by decide) ?_
                refine J_istore_n C (L' := [some (.ref (Z.2.1 0)), some (.int w), some (.int (nI i)), some (.int (nI i))]) dX6_tellYear_116 rfl (by decide) rfl rfl ?_
                refine J_iinc C (v := nI (i + 1)) (L' := [some (.ref (Z.2.1 0)), some (.int w), some (.int (nI i)), some (.int (nI (i + 1)))]) dX6_tellYear_117 rfl (nI_1 _) (by decide) rfl rfl ?_
                refine J_goto (tgt := 84) C dX6_tellYear_120 (by decide) ?_
                refine J_drop ?_ (ih84 (i + 1) (by omega) (by omega) (by omega))
                exact ⟨rfl, rfl, full_yesV (by omega), rfl, trivial⟩
        refine J_drop ?_ (lp84 (a.1 3 + 1) 1 (by omega) (by omega) (by omega))
        exact ⟨rfl, rfl, full_1V a, rfl, trivial⟩
      · skip
        refine J_iload_n C dX6_tellYear_64 rfl rfl ?_
        refine J_if_ne C (tgt := 75) dX6_tellYear_65 (by decide) (fun c65 => ?_) (fun c65 => ?_)
        · skip
          refine J_aload_n C dX6_tellYear_75 rfl rfl ?_
          refine J_callVi C (q0 := 0) (ci := 6) (N := 33) (As := []) (c_X6_occupied l Z _ a hr ok) cw_RX6_175 wd_21_17 wd_21_18 rfl rfl rfl rfl (Nat.le_of_ble_eq_true rfl) rfl rfl (Nat.le_of_ble_eq_true rfl) (Nat.le_of_ble_eq_true rfl) dX6_tellYear_76 (fun r76 x76 hp76 => ?_)
          obtain ⟨rfl, rfl⟩ := hp76
          exact E dX6_tellYear_79 (⟨by rw [tellT, if_neg (lt20 c3), if_neg (lt10 c30), if_pos (lt3 c61), if_neg (show ¬ w = nI 0 from c65)] <;> rfl, rfl⟩)
        · skip
          refine J_aload_n C dX6_tellYear_68 rfl rfl ?_
          refine G6_moved C wd_23_17 dX6_tellYear_69 ?_
          rw [show x.1 27 = x.1 27 from rfl]
          refine J_goto (tgt := 79) C dX6_tellYear_72 (by decide) ?_
          exact E dX6_tellYear_79 (⟨by rw [tellT, if_neg (lt20 c3), if_neg (lt10 c30), if_pos (lt3 c61), if_pos (show w = nI 0 from c65)] <;> rfl, rfl⟩)
    · skip
      obtain ⟨wn, w0, w9, rfl⟩ := rng_nat2 (q := w) (A := 10) (B := 15) (w1015b hw (lt20 c3) (ge10 c30))
      have tnw := tn_nI (n := wn) (by omega)
      have emn := nI_i (n := wn - 10) (by omega)
      refine J_aload_n C dX6_tellYear_33 rfl rfl ?_
      refine J_iload_n C dX6_tellYear_34 rfl rfl ?_
      refine J_bipush C (v := nI 10) dX6_tellYear_35 (by decide) ?_
      refine J_isub C (v := nI (wn - 10)) dX6_tellYear_37 (pk_sub (a := wn) (b := 10) (by omega)) ?_
      refine J_callVz C (q0 := 0) (ci := 6) (N := 33) (As := [.int (nI (wn - 10))]) (c_X6_isMember l Z _ a hr ok _) cw_RX6_154 wd_13_14 wd_13_15 rfl rfl rfl rfl (Nat.le_of_ble_eq_true rfl) rfl rfl (Nat.le_of_ble_eq_true rfl) (Nat.le_of_ble_eq_true rfl) dX6_tellYear_38 (fun b38 x38 hp38 => ?_)
      obtain ⟨rfl, rfl⟩ := hp38
      refine J_if_eq_d C (tgt := 56) dX6_tellYear_41 (by decide) (fun c41 => ?_) (fun c41 => ?_)
      · skip
        refine J_bipush C (v := (-9)) dX6_tellYear_56 (by decide) ?_
        exact E dX6_tellYear_58 (⟨by rw [tellT, if_neg (lt20 c3), if_pos (ge10 c30), tnw, if_neg (fun h => c41 (by unfold mB; rw [emn]; omega))] <;> rfl, rfl⟩)
      · skip
        have c41n : wn - 10 < a.1 4 := by have := c41; unfold mB at this; rw [emn] at this; omega
        have gb := ok6 (wn - 10) c41n
        refine J_aload_n C dX6_tellYear_44 rfl rfl ?_
        refine G6_poolOf C wd_4_0 dX6_tellYear_45 ?_
        refine J_iload_n C dX6_tellYear_48 rfl rfl ?_
        refine J_bipush C (v := nI 10) dX6_tellYear_49 (by decide) ?_
        refine J_isub C (v := nI (wn - 10)) dX6_tellYear_51 (pk_sub (a := wn) (b := 10) (by omega)) ?_
        refine LMn_poolOf hr ok C (by omega) dX6_tellYear_52 ?_
        refine J_goto (tgt := 58) C dX6_tellYear_53 (by decide) ?_
        exact E dX6_tellYear_58 (⟨by rw [tellT, if_neg (lt20 c3), if_pos (ge10 c30), tnw, if_pos c41n] <;> rfl, rfl⟩)
  · skip
    obtain ⟨wn, w0, w9, rfl⟩ := rng_nat2 (q := w) (A := 20) (B := 29) (by have := ge20 c3; unfold yB at hw; omega)
    have tnw := tn_nI (n := wn) (by omega)
    refine J_aload_n C dX6_tellYear_6 rfl rfl ?_
    refine J_aload_n C dX6_tellYear_7 rfl rfl ?_
    refine J_iload_n C dX6_tellYear_8 rfl rfl ?_
    refine J_bipush C (v := nI 20) dX6_tellYear_9 (by decide) ?_
    refine J_isub C (v := nI (wn - 20)) dX6_tellYear_11 (pk_sub (a := wn) (b := 20) (by omega)) ?_
    refine J_callVi C (q0 := 0) (ci := 6) (N := 33) (As := [.int (nI (wn - 20))]) (c_X6_ayesOf l Z _ a hr ok _ (by omega)) cw_RX6_179 wd_19_23 wd_20_0 rfl rfl rfl rfl (Nat.le_of_ble_eq_true rfl) rfl rfl (Nat.le_of_ble_eq_true rfl) (Nat.le_of_ble_eq_true rfl) dX6_tellYear_12 (fun r12 x12 hp12 => ?_)
    obtain ⟨rfl, rfl⟩ := hp12
    refine J_callVz C (q0 := 0) (ci := 6) (N := 33) (As := [.int (nI (fri a (wn - 20)))]) (c_X6_isLawBy l Z _ a hr ok _ (fri64 ok _)) cw_RX6_182 wd_21_13 wd_21_14 rfl rfl rfl rfl (Nat.le_of_ble_eq_true rfl) rfl rfl (Nat.le_of_ble_eq_true rfl) (Nat.le_of_ble_eq_true rfl) dX6_tellYear_15 (fun b15 x15 hp15 => ?_)
    obtain ⟨rfl, rfl⟩ := hp15
    refine J_if_eq_b C (tgt := 25) dX6_tellYear_18 (by decide) (fun c18 => ?_) (fun c18 => ?_)
    · skip
      refine J_iconst C (v := nI 0) dX6_tellYear_25 (by decide) ?_
      exact E dX6_tellYear_26 (⟨by rw [tellT, if_pos (ge20 c3), tnw, c18]; rfl, rfl⟩)
    · skip
      refine J_iconst C (v := nI 1) dX6_tellYear_21 (by decide) ?_
      refine J_goto (tgt := 26) C dX6_tellYear_22 (by decide) ?_
      exact E dX6_tellYear_26 (⟨by rw [tellT, if_pos (ge20 c3), tnw, c18]; rfl, rfl⟩)
def rm_X6_year : Room := ({ frames := 4, cells := 0, slots := 0, locals := 91 })
set_option maxRecDepth 20000 in
theorem c_X6_year (l : Launch) (Z : EC) (x : Mt) (A : AB) (hA : AbsM x A) (hk : AOK A) (k la i n w : Int32) : MIi l Z (wM Z) yX6_year cX6_year 11 rm_X6_year [.ref (Z.2.1 0), .int k, .int la, .int i, .int n, .int w] x (fun r x1 => r = R_year A k la i n w ∧ AbsM x1 (N_year A k la i n w)) := by
  obtain ⟨hr, hH, hR, hT, hF⟩ := id hA
  obtain ⟨ok, hkH, hkR, hkr⟩ := id hk
  obtain ⟨ok0, ok1, ok2, ok3, ok4, ok5, ok6, ok7⟩ := id ok
  refine MIi_of (own := RX6) (L0 := [some (.ref (Z.2.1 0)), some (.int k), some (.int la), some (.int i), some (.int n), some (.int w), none, none, none, none, none]) (by decide) rfl (Nat.le_of_ble_eq_true rfl) ⟨rfl, rfl, rfl, rfl, rfl, rfl, trivial⟩ ?_
  intro Γ C E
  have ct69 : ∀ (x0 : Mt), (AbsM x0 (AsF A (nI 0))) → (hB k) → (lB la) → (inB n 0 20) → (yB w) →  J Γ x0 69 [some (.ref (Z.2.1 0)), some (.int k), some (.int la), some (.int i), some (.int n), some (.int w), none, none, none, none, none] [] := by
    intro x0 hAz c9 c18 c29 hyB
    obtain ⟨kn, k0, k3, rfl⟩ := rng_nat2 (A := 0) (B := 3) c9
    have hkn : kn < 4 := by omega
    have tnk := tn_nI (n := kn) (by omega)
    have gk := hkH kn hkn
    obtain ⟨hr69o, hH69o, hR69o, hT69, hF69⟩ := id hAz
    first | have hr69 : MdR x0 A.1 := hr69o | have hr69 := hr69o
    first | have hH69 : MH x0 A.2.1 := hH69o | have hH69 := hH69o
    first | have hR69 : MR x0 A.2.2.1 := hR69o | have hR69 := hR69o
    refine J_aload_n C dX6_year_69 rfl rfl ?_
    refine J_iload_n C dX6_year_70 rfl rfl ?_
    refine J_iload_n C dX6_year_71 rfl rfl ?_
    refine J_iload_n C dX6_year_72 rfl rfl ?_
    refine J_iload C dX6_year_73 rfl ?_
    refine J_callVi C (q0 := 0) (ci := 6) (N := 33) (As := [.int (nI kn), .int la, .int i, .int n]) (c_X6_against l Z _ hkn A.2.1 hH69 gk.1 gk.2 _ _ _) cw_RX6_90 wd_9_3 wd_9_4 rfl rfl rfl rfl (Nat.le_of_ble_eq_true rfl) rfl rfl (Nat.le_of_ble_eq_true rfl) (Nat.le_of_ble_eq_true rfl) dX6_year_75 (fun r75 x75 hp75 => ?_)
    obtain ⟨rfl, rfl⟩ := hp75
    refine J_istore C (L' := [some (.ref (Z.2.1 0)), some (.int (nI kn)), some (.int la), some (.int i), some (.int n), some (.int w), some (.int (nI (rowF A.2.1 kn la i n))), none, none, none, none]) dX6_year_78 (by decide) rfl rfl ?_
    refine J_iload C dX6_year_80 rfl ?_
    have hrl := rowF_le A.2.1 kn la i n
    refine J_if_eq_n C (tgt := 92) dX6_year_82 (by decide) (by omega) (fun c82 => ?_) (fun c82 => ?_)
    · skip
      rw [c82]
      obtain ⟨q1, q2, q3, q4, q5⟩ := rowF0 c82
      obtain ⟨nm, n0, n9, rfl⟩ := rng_nat2 (q := n) (A := 0) (B := 20) c29
      obtain ⟨im, i0, i9, rfl⟩ := rng_nat2 (q := i) (A := 0) (B := A.2.1.2.1 kn) ⟨q3, q4⟩
      have tni := tn_nI (n := im) (by omega)
      have tnn := tn_nI (n := nm) (by omega)
      rw [nI_i (by omega), nI_i (by omega)] at q5
      refine J_aload_n C dX6_year_92 rfl rfl ?_
      refine G6n_pools hr69 C wd_10_18 dX6_year_93 ?_
      refine J_if_ne_n C (tgt := 102) dX6_year_96 (by decide) (by omega) (fun c96 => ?_) (fun c96 => ?_)
      · skip
        refine J_bipush C (v := nI 60) dX6_year_102 (by decide) ?_
        refine J_iload_n C dX6_year_104 rfl rfl ?_
        refine J_imul C (v := nI (60 * kn)) dX6_year_105 (pk_mul _ _) ?_
        refine J_iload_n C dX6_year_106 rfl rfl ?_
        refine J_iadd C (v := nI ((60 * kn) + im)) dX6_year_107 (nI_add _ _) ?_
        refine J_istore C (L' := [some (.ref (Z.2.1 0)), some (.int (nI kn)), some (.int la), some (.int (nI im)), some (.int (nI nm)), some (.int w), some (.int (nI 0)), some (.int (nI ((60 * kn) + im))), none, none, none]) dX6_year_108 (by decide) rfl rfl ?_
        refine J_iconst C (v := nI 0) dX6_year_110 (by decide) ?_
        refine J_istore C (L' := [some (.ref (Z.2.1 0)), some (.int (nI kn)), some (.int la), some (.int (nI im)), some (.int (nI nm)), some (.int w), some (.int (nI 0)), some (.int (nI ((60 * kn) + im))), some (.int (nI 0)), none, none]) dX6_year_111 (by decide) rfl rfl ?_
        have lp113 : ∀ (f : Nat) (j : Nat), (j ≤ nm) → (okC (A.2.1.2.2 kn) im j 9) → (nm - j < f) →  J Γ x0 113 [some (.ref (Z.2.1 0)), some (.int (nI kn)), some (.int la), some (.int (nI im)), some (.int (nI nm)), some (.int w), some (.int (nI 0)), some (.int (nI (60 * kn + im))), some (.int (nI j)), none, none] [] := by
          intro f
          induction f with
          | zero =>
            intro j hj hvj hf
            omega
          | succ f ih113 =>
            intro j hj hvj hf
            refine J_iload C dX6_year_113 rfl ?_
            refine J_iload C dX6_year_115 rfl ?_
            refine J_icmp_ge_n C (tgt := 145) dX6_year_117 (by decide) (by omega) (by omega) (fun c117 => ?_) (fun c117 => ?_)
            · skip
              have hokj : okC (A.2.1.2.2 kn) im nm 9 := (show j = nm by omega) ▸ hvj
              have hgg : ∀ j, j < nm → x0.2 4 (60 * kn + im + j) = nI ((fun j => tn (A.2.1.2.2 kn (im + j))) j) ∧ (fun j => tn (A.2.1.2.2 kn (im + j))) j ≤ 9 := (fun j hj => by rw [Nat.add_assoc, ((hH69 kn hkn).2 q1).2 (im + j) (by omega)]; have h9 := okC_nI hokj hj (by omega); exact ⟨h9.1, h9.2⟩)
              refine J_iconst C (v := nI 0) dX6_year_145 (by decide) ?_
              refine J_istore C (L' := [some (.ref (Z.2.1 0)), some (.int (nI kn)), some (.int la), some (.int (nI im)), some (.int (nI nm)), some (.int w), some (.int (nI 0)), some (.int (nI (60 * kn + im))), some (.int (nI 0)), none, none]) dX6_year_146 (by decide) rfl rfl ?_
              have lp148 : ∀ (f : Nat) (m : Nat) (y : Mt), (m ≤ A.1.1 4) → (y.1 = x0.1) → (∀ t, t ≠ 26 → y.2 t = x0.2 t) → (∀ q, q < m → y.2 26 q = nI (A.1.2 3 q)) → (A.1.1 4 - m < f) →  J Γ y 148 [some (.ref (Z.2.1 0)), some (.int (nI kn)), some (.int la), some (.int (nI im)), some (.int (nI nm)), some (.int w), some (.int (nI 0)), some (.int (nI (60 * kn + im))), some (.int (nI m)), none, none] [] := by
                intro f
                induction f with
                | zero =>
                  intro m y hm hyI hya hyk hf4
                  omega
                | succ f ih148 =>
                  intro m y hm hyI hya hyk hf4
                  refine J_iload C dX6_year_148 rfl ?_
                  refine J_aload_n C dX6_year_150 rfl rfl ?_
                  refine G6n_members (MdR.frI hr69 hyI hya) C wd_8_16 dX6_year_151 ?_
                  refine J_icmp_ge_n C (tgt := 177) dX6_year_154 (by decide) (by omega) (by omega) (fun c154 => ?_) (fun c154 => ?_)
                  · skip
                    refine J_aload_n C dX6_year_177 rfl rfl ?_
                    refine J_iload C dX6_year_178 rfl ?_
                    refine J_iload C dX6_year_180 rfl ?_
                    refine J_callVi C (q0 := 0) (ci := 6) (N := 33) (As := [.int (nI (60 * kn + im)), .int (nI nm)]) (c_X6_goYear l Z _ A.1 (MdR.frI hr69 hyI hya) ok _ nm (by omega) (by omega) (fun j => tn (A.2.1.2.2 kn (im + j))) (fun j hj => by rw [hya 4 (by decide)]; exact hgg j hj)) cw_RX6_188 wd_23_14 wd_23_15 rfl rfl rfl rfl (Nat.le_of_ble_eq_true rfl) rfl rfl (Nat.le_of_ble_eq_true rfl) (Nat.le_of_ble_eq_true rfl) dX6_year_182 (fun r182 x182 hp182 => ?_)
                    obtain ⟨rfl, hf182, yb, hyb1, hyb2, hyb3, hyb4⟩ := hp182
                    refine J_istore C (L' := [some (.ref (Z.2.1 0)), some (.int (nI kn)), some (.int la), some (.int (nI im)), some (.int (nI nm)), some (.int w), some (.int (nI 0)), some (.int (nI (60 * kn + im))), some (.int (wrT A.1 (fun j => tn (A.2.1.2.2 kn (im + j))) nm)), none, none]) dX6_year_185 (by decide) rfl rfl ?_
                    refine J_aload_n C dX6_year_187 rfl rfl ?_
                    refine J_iload C dX6_year_188 rfl ?_
                    refine J_callVi C (q0 := 0) (ci := 6) (N := 33) (As := [.int w]) (c_X6_tellYear l Z _ yb hyb3 hyb1 (by rw [hyb2]; omega) _ hyB) cw_RX6_192 wd_23_19 wd_23_20 rfl rfl rfl rfl (Nat.le_of_ble_eq_true rfl) rfl rfl (Nat.le_of_ble_eq_true rfl) (Nat.le_of_ble_eq_true rfl) dX6_year_190 (fun r190 x190 hp190 => ?_)
                    obtain ⟨rfl, rfl⟩ := hp190
                    refine J_istore C (L' := [some (.ref (Z.2.1 0)), some (.int (nI kn)), some (.int la), some (.int (nI im)), some (.int (nI nm)), some (.int w), some (.int (nI 0)), some (.int (nI (60 * kn + im))), some (.int (wrT A.1 (fun j => tn (A.2.1.2.2 kn (im + j))) nm)), some (.int (tellT yb (x182.1 27) w)), none]) dX6_year_193 (by decide) rfl rfl ?_
                    refine J_iconst C (v := nI 0) dX6_year_195 (by decide) ?_
                    refine J_istore C (L' := [some (.ref (Z.2.1 0)), some (.int (nI kn)), some (.int la), some (.int (nI im)), some (.int (nI nm)), some (.int w), some (.int (nI 0)), some (.int (nI (60 * kn + im))), some (.int (wrT A.1 (fun j => tn (A.2.1.2.2 kn (im + j))) nm)), some (.int (tellT yb (x182.1 27) w)), some (.int (nI 0))]) dX6_year_196 (by decide) rfl rfl ?_
                    have lp198 : ∀ (f : Nat) (m : Nat) (z : Mt), (m ≤ A.1.1 4) → (z.1 = x182.1) → (∀ t, t ≠ 13 → z.2 t = x182.2 t) → (∀ q, q < m → z.2 13 q = nI (A.1.2 3 q)) → (A.1.1 4 - m < f) →  J Γ z 198 [some (.ref (Z.2.1 0)), some (.int (nI kn)), some (.int la), some (.int (nI im)), some (.int (nI nm)), some (.int w), some (.int (nI 0)), some (.int (nI (60 * kn + im))), some (.int (wrT A.1 (fun j => tn (A.2.1.2.2 kn (im + j))) nm)), some (.int (tellT yb (x182.1 27) w)), some (.int (nI m))] [] := by
                      intro f
                      induction f with
                      | zero =>
                        intro m z hm2 hzI hza hzp hf5
                        omega
                      | succ f ih198 =>
                        intro m z hm2 hzI hza hzp hf5
                        have hzk : ∀ q, q < A.1.1 4 → z.2 26 q = nI (A.1.2 3 q) := fun q hq => (congrFun (hza 26 (by decide)) q).trans ((congrFun (hf182.2 26 (by decide)) q).trans (hyk q (by omega)))
                        refine J_iload C dX6_year_198 rfl ?_
                        refine J_aload_n C dX6_year_200 rfl rfl ?_
                        refine G6_members C wd_8_16 dX6_year_201 ?_
                        rw [show z.1 6 = nI (A.1.1 4) from (congrFun hzI 6).trans ((hf182.1 6 (by decide)).trans ((congrFun hyI 6).trans hr69.2.2.2.2.1))]
                        refine J_icmp_ge_n C (tgt := 227) dX6_year_204 (by decide) (by omega) (by omega) (fun c204 => ?_) (fun c204 => ?_)
                        · skip
                          have hzA : AbsM z (AsF A (nI 0)) := absM_yr hAz (fun i hi => (congrFun hzI i).trans ((hf182.1 i hi).trans (congrFun hyI i))) (fun t h1 h2 => (hza t h1).trans ((hf182.2 t h1).trans (hya t h2))) (fun q hq => hzp q (by have hq2 : q < A.1.1 4 := hq; omega))
                          refine J_iload C dX6_year_227 rfl ?_
                          refine J_iconst C (v := nI 1) dX6_year_229 (by decide) ?_
                          refine J_icmp_ne C (tgt := 238) dX6_year_230 (by decide) (fun c230 => ?_) (fun c230 => ?_)
                          · skip
                            refine J_iload C dX6_year_238 rfl ?_
                            refine J_bipush C (v := (-9)) dX6_year_240 (by decide) ?_
                            refine J_icmp_ne C (tgt := 250) dX6_year_242 (by decide) (fun c242 => ?_) (fun c242 => ?_)
                            · skip
                              refine J_bipush C (v := (-100)) dX6_year_250 (by decide) ?_
                              refine J_iload C dX6_year_252 rfl ?_
                              refine J_isub C (v := (-100) - (wrT A.1 (fun j => tn (A.2.1.2.2 kn (im + j))) nm)) dX6_year_254 (rfl) ?_
                              exact E dX6_year_255 (⟨by rw [R_year, if_pos c9, if_pos c18, if_pos c29, if_pos hyB, tnk, if_pos c82, if_neg c96, tni, tnn, if_pos hokj]; exact (yearT_w c230 c242).symm, by rw [N_year, if_pos c9, if_pos c18, if_pos c29, if_pos hyB, tnk]; rw [c82]; exact hzA⟩)
                            · skip
                              refine J_iload C dX6_year_245 rfl ?_
                              refine J_goto (tgt := 255) C dX6_year_247 (by decide) ?_
                              exact E dX6_year_255 (⟨by rw [R_year, if_pos c9, if_pos c18, if_pos c29, if_pos hyB, tnk, if_pos c82, if_neg c96, tni, tnn, if_pos hokj]; exact told_eq hyB c230 (wrT_eq c242 (by omega)) (hyb4 (wrT_eq c242 (by omega))), by rw [N_year, if_pos c9, if_pos c18, if_pos c29, if_pos hyB, tnk]; rw [c82]; exact hzA⟩)
                          · skip
                            refine J_iload C dX6_year_233 rfl ?_
                            refine J_goto (tgt := 255) C dX6_year_235 (by decide) ?_
                            exact E dX6_year_255 (⟨by rw [R_year, if_pos c9, if_pos c18, if_pos c29, if_pos hyB, tnk, if_pos c82, if_neg c96, tni, tnn, if_pos hokj]; exact (yearT_1 c230).symm, by rw [N_year, if_pos c9, if_pos c18, if_pos c29, if_pos hyB, tnk]; rw [c82]; exact hzA⟩)
                        · skip
                          refine J_aload_n C dX6_year_207 rfl rfl ?_
                          refine G6_poolOf C wd_4_0 dX6_year_208 ?_
                          refine J_iload C dX6_year_211 rfl ?_
                          refine J_aload_n C dX6_year_213 rfl rfl ?_
                          refine G6_kept C wd_4_7 dX6_year_214 ?_
                          refine J_iload C dX6_year_217 rfl ?_
                          refine LM_kept C (v := nI (A.1.2 3 m)) (by omega) (hzk m (by omega)) dX6_year_219 ?_
                          refine SM_poolOf C (by omega) dX6_year_220 ?_
                          refine J_iinc C (v := nI (m + 1)) (L' := [some (.ref (Z.2.1 0)), some (.int (nI kn)), some (.int la), some (.int (nI im)), some (.int (nI nm)), some (.int w), some (.int (nI 0)), some (.int (nI (60 * kn + im))), some (.int (wrT A.1 (fun j => tn (A.2.1.2.2 kn (im + j))) nm)), some (.int (tellT yb (x182.1 27) w)), some (.int (nI (m + 1)))]) dX6_year_221 rfl (nI_1 _) (by decide) rfl rfl ?_
                          refine J_goto (tgt := 198) C dX6_year_224 (by decide) ?_
                          refine J_drop ?_ (ih198 (m + 1) (mA z 13 (upd (z.2 13) m (nI (A.1.2 3 m)))) (by omega) hzI (fun t ht => (mA_ne ht).trans (hza t ht)) (fun q hq => (congrFun mA_eq q).trans (by by_cases e : q = m; (rw [e]; exact upd_eq); (exact (upd_ne e).trans (hzp q (by omega))))) (by omega))
                          exact ⟨rfl, rfl, rfl, rfl, rfl, rfl, rfl, rfl, rfl, rfl, rfl, trivial⟩
                    refine J_drop ?_ (lp198 (A.1.1 4 + 1) 0 x182 (by omega) rfl (fun _ _ => rfl) (fun q hq => absurd hq (Nat.not_lt_zero q)) (by omega))
                    exact ⟨rfl, rfl, rfl, rfl, rfl, rfl, rfl, rfl, rfl, rfl, rfl, trivial⟩
                  · skip
                    refine J_aload_n C dX6_year_157 rfl rfl ?_
                    refine G6_kept C wd_4_7 dX6_year_158 ?_
                    refine J_iload C dX6_year_161 rfl ?_
                    refine J_aload_n C dX6_year_163 rfl rfl ?_
                    refine G6_poolOf C wd_4_0 dX6_year_164 ?_
                    refine J_iload C dX6_year_167 rfl ?_
                    refine LMn_poolOf (MdR.frI hr69 hyI hya) ok C (by omega) dX6_year_169 ?_
                    refine SM_kept C (by omega) dX6_year_170 ?_
                    refine J_iinc C (v := nI (m + 1)) (L' := [some (.ref (Z.2.1 0)), some (.int (nI kn)), some (.int la), some (.int (nI im)), some (.int (nI nm)), some (.int w), some (.int (nI 0)), some (.int (nI (60 * kn + im))), some (.int (nI (m + 1))), none, none]) dX6_year_171 rfl (nI_1 _) (by decide) rfl rfl ?_
                    refine J_goto (tgt := 148) C dX6_year_174 (by decide) ?_
                    refine J_drop ?_ (ih148 (m + 1) (mA y 26 (upd (y.2 26) m (nI (A.1.2 3 m)))) (by omega) hyI (fun t ht => (mA_ne ht).trans (hya t ht)) (fun q hq => (congrFun mA_eq q).trans (by by_cases e : q = m; (rw [e]; exact upd_eq); (exact (upd_ne e).trans (hyk q (by omega))))) (by omega))
                    exact ⟨rfl, rfl, rfl, rfl, rfl, rfl, rfl, rfl, rfl, trivial⟩
              refine J_drop ?_ (lp148 (A.1.1 4 + 1) 0 x0 (by omega) rfl (fun _ _ => rfl) (fun q hq => absurd hq (Nat.not_lt_zero q)) (by omega))
              exact ⟨rfl, rfl, rfl, rfl, rfl, rfl, rfl, rfl, rfl, trivial⟩
            · skip
              refine J_aload_n C dX6_year_120 rfl rfl ?_
              refine G6_cells C wd_3_20 dX6_year_121 ?_
              refine J_iload C dX6_year_124 rfl ?_
              refine J_iload C dX6_year_126 rfl ?_
              refine J_iadd C (v := nI ((60 * kn + im) + j)) dX6_year_128 (nI_add _ _) ?_
              refine LM_cells C (v := A.2.1.2.2 kn (im + j)) (by omega) (by rw [Nat.add_assoc]; exact ((hH69 kn hkn).2 q1).2 (im + j) (by omega)) dX6_year_129 ?_
              refine J_callSz C (As := [.int (A.2.1.2.2 kn (im + j))]) (c_X6_isDigit l Z _ _) cw_RX6_160 wd_14_17 rfl rfl (Nat.le_of_ble_eq_true rfl) rfl rfl (Nat.le_of_ble_eq_true rfl) (Nat.le_of_ble_eq_true rfl) dX6_year_130 (fun b130 x130 hp130 => ?_)
              obtain ⟨rfl, rfl⟩ := hp130
              refine J_if_ne_d C (tgt := 139) dX6_year_133 (by decide) (fun c133 => ?_) (fun c133 => ?_)
              · skip
                refine J_iinc C (v := nI (j + 1)) (L' := [some (.ref (Z.2.1 0)), some (.int (nI kn)), some (.int la), some (.int (nI im)), some (.int (nI nm)), some (.int w), some (.int (nI 0)), some (.int (nI (60 * kn + im))), some (.int (nI (j + 1))), none, none]) dX6_year_139 rfl (nI_1 _) (by decide) rfl rfl ?_
                refine J_goto (tgt := 113) C dX6_year_142 (by decide) ?_
                refine J_drop ?_ (ih113 (j + 1) (by omega) (fun q hq => by by_cases e : q = j; (rw [e]; exact c133); (exact hvj q (by omega))) (by omega))
                exact ⟨rfl, rfl, rfl, rfl, rfl, rfl, rfl, rfl, rfl, trivial⟩
              · skip
                refine J_bipush C (v := (-2)) dX6_year_136 (by decide) ?_
                exact E dX6_year_138 (⟨by rw [R_year, if_pos c9, if_pos c18, if_pos c29, if_pos hyB, tnk, if_pos c82, if_neg c96, tni, tnn, if_neg (fun h => c133 (h j (by omega)))] <;> rfl, by rw [N_year, if_pos c9, if_pos c18, if_pos c29, if_pos hyB, tnk]; rw [c82]; exact hAz⟩)
        refine J_drop ?_ (lp113 (nm + 1) 0 (by omega) (fun j hj => absurd hj (Nat.not_lt_zero j)) (by omega))
        exact ⟨rfl, rfl, rfl, rfl, rfl, rfl, rfl, rfl, rfl, trivial⟩
      · skip
        refine J_bipush C (v := (-3)) dX6_year_99 (by decide) ?_
        exact E dX6_year_101 (⟨by rw [R_year, if_pos c9, if_pos c18, if_pos c29, if_pos hyB, tnk, if_pos c82, if_pos c96] <;> rfl, by rw [N_year, if_pos c9, if_pos c18, if_pos c29, if_pos hyB, tnk]; rw [c82]; exact hAz⟩)
    · skip
      refine J_aload_n C dX6_year_85 rfl rfl ?_
      refine J_iload C dX6_year_86 rfl ?_
      refine J_callVi C (q0 := 0) (ci := 6) (N := 33) (As := [.int (nI (rowF A.2.1 kn la i n))]) (c_X6_fails l Z _ (AsF A (nI 0)) hAz hk _) cw_RX6_94 wd_9_7 wd_9_8 rfl rfl rfl rfl (Nat.le_of_ble_eq_true rfl) rfl rfl (Nat.le_of_ble_eq_true rfl) (Nat.le_of_ble_eq_true rfl) dX6_year_88 (fun r88 x88 hp88 => ?_)
      obtain ⟨rfl, hA88⟩ := hp88
      obtain ⟨hr88o, hH88o, hR88o, hT88, hF88⟩ := id hA88
      first | have hr88 : MdR x88 A.1 := hr88o | have hr88 := hr88o
      first | have hH88 : MH x88 A.2.1 := hH88o | have hH88 := hH88o
      first | have hR88 : MR x88 A.2.2.1 := hR88o | have hR88 := hR88o
      exact E dX6_year_91 (⟨by rw [R_year, if_pos c9, if_pos c18, if_pos c29, if_pos hyB, tnk, if_neg c82] <;> rfl, by rw [N_year, if_pos c9, if_pos c18, if_pos c29, if_pos hyB, tnk]; exact hA88⟩)
  refine J_aload_n C dX6_year_0 rfl rfl ?_
  refine J_iconst C (v := nI 0) dX6_year_1 (by decide) ?_
  refine P6_fault C wd_8_14 dX6_year_2 ?_
  have hAz := absM_F (v := nI 0) hA
  generalize mI x 0 (nI 0) = x0 at hAz ⊢
  obtain ⟨hr2o, hH2o, hR2o, hT2, hF2⟩ := id hAz
  first | have hr2 : MdR x0 A.1 := hr2o | have hr2 := hr2o
  first | have hH2 : MH x0 A.2.1 := hH2o | have hH2 := hH2o
  first | have hR2 : MR x0 A.2.2.1 := hR2o | have hR2 := hR2o
  refine J_iload_n C dX6_year_5 rfl rfl ?_
  refine J_callSz C (As := [.int k]) (c_X6_isSheet l Z _ _) cw_RX6_83 wd_8_18 rfl rfl (Nat.le_of_ble_eq_true rfl) rfl rfl (Nat.le_of_ble_eq_true rfl) (Nat.le_of_ble_eq_true rfl) dX6_year_6 (fun b6 x6 hp6 => ?_)
  obtain ⟨rfl, rfl⟩ := hp6
  refine J_if_ne_d C (tgt := 14) dX6_year_9 (by decide) (fun c9 => ?_) (fun c9 => ?_)
  · skip
    refine J_iload_n C dX6_year_14 rfl rfl ?_
    refine J_callSz C (As := [.int la]) (c_X6_isSort l Z _ _) cw_RX6_87 wd_9_0 rfl rfl (Nat.le_of_ble_eq_true rfl) rfl rfl (Nat.le_of_ble_eq_true rfl) (Nat.le_of_ble_eq_true rfl) dX6_year_15 (fun b15 x15 hp15 => ?_)
    obtain ⟨rfl, rfl⟩ := hp15
    refine J_if_eq_d C (tgt := 66) dX6_year_18 (by decide) (fun c18 => ?_) (fun c18 => ?_)
    · skip
      refine J_bipush C (v := (-2)) dX6_year_66 (by decide) ?_
      exact E dX6_year_68 (⟨by rw [R_year, if_pos c9, if_neg c18] <;> first | rfl | decide, by rw [N_year, if_pos c9, if_neg c18]; exact hAz⟩)
    · skip
      refine J_iload C dX6_year_21 rfl ?_
      refine J_iconst C (v := nI 0) dX6_year_23 (by decide) ?_
      refine J_bipush C (v := nI 20) dX6_year_24 (by decide) ?_
      refine J_callSz C (As := [.int n, .int (nI 0), .int (nI 20)]) (c_X6_within l Z _ _ _ _ (0) (20) (by decide) (by decide)) cw_RX6_70 wd_8_21 rfl rfl (Nat.le_of_ble_eq_true rfl) rfl rfl (Nat.le_of_ble_eq_true rfl) (Nat.le_of_ble_eq_true rfl) dX6_year_26 (fun b26 x26 hp26 => ?_)
      obtain ⟨rfl, rfl⟩ := hp26
      refine J_if_eq_d C (tgt := 66) dX6_year_29 (by decide) (fun c29 => ?_) (fun c29 => ?_)
      · skip
        refine J_bipush C (v := (-2)) dX6_year_66 (by decide) ?_
        exact E dX6_year_68 (⟨by rw [R_year, if_pos c9, if_pos c18, if_neg c29] <;> first | rfl | decide, by rw [N_year, if_pos c9, if_pos c18, if_neg c29]; exact hAz⟩)
      · skip
        refine J_iload C dX6_year_32 rfl ?_
        refine J_iconst C (v := nI 0) dX6_year_34 (by decide) ?_
        refine J_iconst C (v := nI 3) dX6_year_35 (by decide) ?_
        refine J_callSz C (As := [.int w, .int (nI 0), .int (nI 3)]) (c_X6_within l Z _ _ _ _ (0) (3) (by decide) (by decide)) cw_RX6_70 wd_8_21 rfl rfl (Nat.le_of_ble_eq_true rfl) rfl rfl (Nat.le_of_ble_eq_true rfl) (Nat.le_of_ble_eq_true rfl) dX6_year_36 (fun b36 x36 hp36 => ?_)
        obtain ⟨rfl, rfl⟩ := hp36
        refine J_if_ne_d C (tgt := 69) dX6_year_39 (by decide) (fun c39 => ?_) (fun c39 => ?_)
        · skip
          have hyB : yB w := Or.inl c39
          refine J_drop ?_ (ct69 x0 hAz c9 c18 c29 hyB)
          exact ⟨rfl, rfl, rfl, rfl, rfl, rfl, trivial⟩
        · skip
          refine J_iload C dX6_year_42 rfl ?_
          refine J_bipush C (v := nI 10) dX6_year_44 (by decide) ?_
          refine J_bipush C (v := nI 15) dX6_year_46 (by decide) ?_
          refine J_callSz C (As := [.int w, .int (nI 10), .int (nI 15)]) (c_X6_within l Z _ _ _ _ (10) (15) (by decide) (by decide)) cw_RX6_70 wd_8_21 rfl rfl (Nat.le_of_ble_eq_true rfl) rfl rfl (Nat.le_of_ble_eq_true rfl) (Nat.le_of_ble_eq_true rfl) dX6_year_48 (fun b48 x48 hp48 => ?_)
          obtain ⟨rfl, rfl⟩ := hp48
          refine J_if_ne_d C (tgt := 69) dX6_year_51 (by decide) (fun c51 => ?_) (fun c51 => ?_)
          · skip
            have hyB : yB w := Or.inr (Or.inl c51)
            refine J_drop ?_ (ct69 x0 hAz c9 c18 c29 hyB)
            exact ⟨rfl, rfl, rfl, rfl, rfl, rfl, trivial⟩
          · skip
            refine J_iload C dX6_year_54 rfl ?_
            refine J_bipush C (v := nI 20) dX6_year_56 (by decide) ?_
            refine J_bipush C (v := nI 29) dX6_year_58 (by decide) ?_
            refine J_callSz C (As := [.int w, .int (nI 20), .int (nI 29)]) (c_X6_within l Z _ _ _ _ (20) (29) (by decide) (by decide)) cw_RX6_70 wd_8_21 rfl rfl (Nat.le_of_ble_eq_true rfl) rfl rfl (Nat.le_of_ble_eq_true rfl) (Nat.le_of_ble_eq_true rfl) dX6_year_60 (fun b60 x60 hp60 => ?_)
            obtain ⟨rfl, rfl⟩ := hp60
            refine J_if_ne_d C (tgt := 69) dX6_year_63 (by decide) (fun c63 => ?_) (fun c63 => ?_)
            · skip
              have hyB : yB w := Or.inr (Or.inr c63)
              refine J_drop ?_ (ct69 x0 hAz c9 c18 c29 hyB)
              exact ⟨rfl, rfl, rfl, rfl, rfl, rfl, trivial⟩
            · skip
              refine J_bipush C (v := (-2)) dX6_year_66 (by decide) ?_
              exact E dX6_year_68 (⟨by rw [R_year, if_pos c9, if_pos c18, if_pos c29, if_neg (by unfold yB; omega)] <;> first | rfl | decide, by rw [N_year, if_pos c9, if_pos c18, if_pos c29, if_neg (by unfold yB; omega)]; exact hAz⟩)
  · skip
    refine J_iconst C (v := (-1)) dX6_year_12 (by decide) ?_
    exact E dX6_year_13 (⟨by rw [R_year, if_neg c9] <;> first | rfl | decide, by rw [N_year, if_neg c9]; exact hAz⟩)
