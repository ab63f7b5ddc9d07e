theorem absM_fr {x z : Mt} {A : AB} (h : AbsM x A) (hd : MdR z A.1) (hI : ∀ i, i < 5 ∨ 10 ≤ i → z.1 i = x.1 i) (hAr : ∀ t, t < 10 ∨ 15 ≤ t → z.2 t = x.2 t) : AbsM z A := by
  obtain ⟨m1, m2, m3, m4, m5⟩ := h
  exact ⟨hd, m2.same (fun t h1 h2 => hAr t (by omega)), m3.same (hI 29 (by omega)) (fun t h1 h2 => hAr t (by omega)), (hI _ (by omega)).trans m4, (hI _ (by omega)).trans m5⟩
theorem gcd_all : ∀ u, u < 101 → gcd100 u 100 = Nat.gcd u 100 := by decide +kernel
theorem gcd_is (u : Nat) (h : u ≤ 100) : gcd100 u 100 = Nat.gcd u 100 := gcd_all u (by omega)
theorem gcd_pos (u : Nat) (h : u ≤ 100) : 0 < gcd100 u 100 ∧ gcd100 u 100 ≤ 101 := by
  have := gcd_rng u 100
  omega
theorem cmp_0 {d : Nat} (h : d ≤ 100) (hc : lg_cmp (lN d) 0 = 0) : d = 0 := by
  have key : ∀ d, d < 101 → lg_cmp (lN d) 0 = 0 → d = 0 := by decide +kernel
  exact key d (by omega) hc
theorem prs_no {a : SA} {m q t : Nat} (h : ¬ carry a (carry a (a.2 3 m) (a.2 2 m) (t / 10)) (a.2 2 m) (t % 10) = q) : nI (pairs a m q t) + nI 0 = nI (pairs a m q (t + 1)) := by
  show _ = nI (pairs a m q t + (if _ then 1 else 0))
  rw [if_neg h]; exact nI_add _ 0
theorem prs_yes {a : SA} {m q t : Nat} (h : carry a (carry a (a.2 3 m) (a.2 2 m) (t / 10)) (a.2 2 m) (t % 10) = q) : nI (pairs a m q t) + nI 1 = nI (pairs a m q (t + 1)) := by
  show _ = nI (pairs a m q t + (if _ then 1 else 0))
  rw [if_pos h]; exact nI_add _ 1

def rm_X6_areSo : Room := ({ frames := 1, cells := 0, slots := 0, locals := 25 })
set_option maxRecDepth 20000 in
theorem c_X6_areSo (l : Launch) (Z : EC) (x : Mt) (a : SA) (hr : MdR x a) (ok : SOK a) (R : Nat × (Nat → Nat → Nat)) (hR : MR x R) (h8 : R.1 ≤ 8) (hb : ∀ j, j < R.1 → R.2 0 j < a.1 4 ∧ R.2 1 j ≤ 9 ∧ R.2 2 j < a.1 3) : MIz l Z (wM Z) yX6_areSo cX6_areSo 3 rm_X6_areSo [.ref (Z.2.1 0)] x (fun b1 x1 => b1 = soR a R.2 R.1 ∧ x = x1) := by
  obtain ⟨ok0, ok1, ok2, ok3, ok4, ok5, ok6, ok7⟩ := id ok
  refine MIz_of (own := RX6) (L0 := [some (.ref (Z.2.1 0)), none, none]) (by decide) rfl (Nat.le_of_ble_eq_true rfl) ⟨rfl, trivial⟩ ?_
  intro Γ C E
  refine J_iconst C (v := nI 0) dX6_areSo_0 (by decide) ?_
  refine J_istore_n C (L' := [some (.ref (Z.2.1 0)), some (.int (nI 0)), none]) dX6_areSo_1 rfl (by decide) rfl rfl ?_
  have lp2 : ∀ (f : Nat) (i : Nat), (i ≤ R.1) → (soR a R.2 i = true) → (R.1 - i < f) →  J Γ x 2 [some (.ref (Z.2.1 0)), some (.int (nI i)), none] [] := by
    intro f
    induction f with
    | zero =>
      intro i hi hv hf
      omega
    | succ f ih2 =>
      intro i hi hv hf
      refine J_iload_n C dX6_areSo_2 rfl rfl ?_
      refine J_aload_n C dX6_areSo_3 rfl rfl ?_
      refine G6_readings C wd_10_19 dX6_areSo_4 ?_
      rw [show x.1 29 = nI R.1 from hR.1]
      refine J_icmp_ge_n C (tgt := 55) dX6_areSo_7 (by decide) (by omega) (by omega) (fun c7 => ?_) (fun c7 => ?_)
      · skip
        refine J_iconst C (v := nI 1) dX6_areSo_55 (by decide) ?_
        exact E (b := true) dX6_areSo_56 (⟨by rw [← hv, show i = R.1 by omega], rfl⟩)
      · skip
        obtain ⟨g1, g2, g3⟩ := hb i (by omega)
        obtain ⟨g4, g5, g6⟩ := ok6 _ g1
        have hs1 := ok7 (by omega)
        have hst := stp_le (k := a.2 2 (R.2 0 i)) ok0
        have hcl : carry a (a.2 3 (R.2 0 i)) (a.2 2 (R.2 0 i)) (R.2 1 i) < a.1 3 := carry_lt g5
        refine J_aload_n C dX6_areSo_10 rfl rfl ?_
        refine G6_readWho C wd_4_9 dX6_areSo_11 ?_
        refine J_iload_n C dX6_areSo_14 rfl rfl ?_
        refine LM_readWho C (v := nI (R.2 0 i)) (by omega) ((hR.2 i (by omega)).1) dX6_areSo_15 ?_
        refine J_istore_n C (L' := [some (.ref (Z.2.1 0)), some (.int (nI i)), some (.int (nI (R.2 0 i)))]) dX6_areSo_16 rfl (by decide) rfl rfl ?_
        refine J_aload_n C dX6_areSo_17 rfl rfl ?_
        refine J_aload_n C dX6_areSo_18 rfl rfl ?_
        refine G6_poolOf C wd_4_0 dX6_areSo_19 ?_
        refine J_iload_n C dX6_areSo_22 rfl rfl ?_
        refine LMn_poolOf hr ok C (by omega) dX6_areSo_23 ?_
        refine J_aload_n C dX6_areSo_24 rfl rfl ?_
        refine J_iload_n C dX6_areSo_25 rfl rfl ?_
        refine J_callVi C (q0 := 0) (ci := 6) (N := 33) (As := [.int (nI (R.2 0 i))]) (c_X6_farOf l Z _ a hr ok _ g1) cw_RX6_157 wd_13_18 wd_13_19 rfl rfl rfl rfl (Nat.le_of_ble_eq_true rfl) rfl rfl (Nat.le_of_ble_eq_true rfl) (Nat.le_of_ble_eq_true rfl) dX6_areSo_26 (fun r26 x26 hp26 => ?_)
        obtain ⟨rfl, rfl⟩ := hp26
        refine J_aload_n C dX6_areSo_29 rfl rfl ?_
        refine G6_readTide C wd_4_10 dX6_areSo_30 ?_
        refine J_iload_n C dX6_areSo_33 rfl rfl ?_
        refine LM_readTide C (v := nI (R.2 1 i)) (by omega) ((hR.2 i (by omega)).2.1) dX6_areSo_34 ?_
        refine J_callVi C (q0 := 0) (ci := 6) (N := 33) (As := [.int (nI (a.2 3 (R.2 0 i))), .int (nI (stp (a.1 0) (a.2 2 (R.2 0 i)))), .int (nI (R.2 1 i))]) (c_X6_carriedFrom l Z _ a hr ok (a.2 3 (R.2 0 i)) (stp (a.1 0) (a.2 2 (R.2 0 i))) (R.2 1 i) g5 hst (by omega)) cw_RX6_166 wd_18_8 wd_18_9 rfl rfl rfl rfl (Nat.le_of_ble_eq_true rfl) rfl rfl (Nat.le_of_ble_eq_true rfl) (Nat.le_of_ble_eq_true rfl) dX6_areSo_35 (fun r35 x35 hp35 => ?_)
        obtain ⟨hv35, rfl⟩ := hp35
        have hv35 : r35 = nI (carry a (a.2 3 (R.2 0 i)) (a.2 2 (R.2 0 i)) (R.2 1 i)) := hv35
        subst hv35
        refine J_aload_n C dX6_areSo_38 rfl rfl ?_
        refine G6_readTo C wd_4_11 dX6_areSo_39 ?_
        refine J_iload_n C dX6_areSo_42 rfl rfl ?_
        refine LM_readTo C (v := nI (R.2 2 i)) (by omega) ((hR.2 i (by omega)).2.2) dX6_areSo_43 ?_
        refine J_icmp_eq_n C (tgt := 49) dX6_areSo_44 (by decide) (by omega) (by omega) (fun c44 => ?_) (fun c44 => ?_)
        · skip
          refine J_iinc C (v := nI (i + 1)) (L' := [some (.ref (Z.2.1 0)), some (.int (nI (i + 1))), some (.int (nI (R.2 0 i)))]) dX6_areSo_49 rfl (nI_1 _) (by decide) rfl rfl ?_
          refine J_goto (tgt := 2) C dX6_areSo_52 (by decide) ?_
          refine J_drop ?_ (ih2 (i + 1) (by omega) (soR_step hv c44) (by omega))
          exact ⟨rfl, rfl, trivial⟩
        · skip
          refine J_iconst C (v := nI 0) dX6_areSo_47 (by decide) ?_
          exact E (b := false) dX6_areSo_48 (⟨(soR_false c44 (by omega)).symm, rfl⟩)
  refine J_drop ?_ (lp2 (R.1 + 1) 0 (by omega) rfl (by omega))
  exact ⟨rfl, rfl, trivial⟩
def rm_X6_heights : Room := ({ frames := 2, cells := 0, slots := 0, locals := 47 })
set_option maxRecDepth 20000 in
theorem c_X6_heights (l : Launch) (Z : EC) (x : Mt) (A : AB) (hA : AbsM x A) (hk : AOK A) (q : Int32) : MIi l Z (wM Z) yX6_heights cX6_heights 5 rm_X6_heights [.ref (Z.2.1 0), .int q] x (fun r x1 => r = R_heights A q ∧ AbsM x1 A) := by
  obtain ⟨hr, hH, hR, hT, hF⟩ := id hA
  obtain ⟨ok, hkH, hkR, hkr⟩ := id hk
  obtain ⟨ok0, ok1, ok2, ok3, ok4, ok5, ok6, ok7⟩ := id ok
  refine MIi_of (own := RX6) (L0 := [some (.ref (Z.2.1 0)), some (.int q), none, none, none]) (by decide) rfl (Nat.le_of_ble_eq_true rfl) ⟨rfl, rfl, trivial⟩ ?_
  intro Γ C E
  refine J_aload_n C dX6_heights_0 rfl rfl ?_
  refine J_iload_n C dX6_heights_1 rfl rfl ?_
  refine J_callVz C (q0 := 0) (ci := 6) (N := 33) (As := [.int q]) (c_X6_isPool l Z _ A.1 hr ok _) cw_RX6_145 wd_12_8 wd_12_9 rfl rfl rfl rfl (Nat.le_of_ble_eq_true rfl) rfl rfl (Nat.le_of_ble_eq_true rfl) (Nat.le_of_ble_eq_true rfl) dX6_heights_2 (fun b2 x2 hp2 => ?_)
  obtain ⟨rfl, rfl⟩ := hp2
  refine J_if_ne_d C (tgt := 10) dX6_heights_5 (by decide) (fun c5 => ?_) (fun c5 => ?_)
  · skip
    obtain ⟨qn, hqn, rfl⟩ := rng_nat c5
    have tnq := tn_nI (n := qn) (by omega)
    have gq := ok5 qn hqn
    refine J_aload_n C dX6_heights_10 rfl rfl ?_
    refine G6_height C wd_3_21 dX6_heights_11 ?_
    refine J_iload_n C dX6_heights_14 rfl rfl ?_
    refine LMn_height hr ok C (by omega) dX6_heights_15 ?_
    refine J_istore_n C (L' := [some (.ref (Z.2.1 0)), some (.int (nI qn)), some (.int (nI (A.1.2 0 qn))), none, none]) dX6_heights_16 rfl (by decide) rfl rfl ?_
    refine J_iconst C (v := nI 0) dX6_heights_17 (by decide) ?_
    refine J_istore_n C (L' := [some (.ref (Z.2.1 0)), some (.int (nI qn)), some (.int (nI (A.1.2 0 qn))), some (.int (nI 0)), none]) dX6_heights_18 rfl (by decide) rfl rfl ?_
    refine J_iconst C (v := nI 1) dX6_heights_19 (by decide) ?_
    refine J_istore C (L' := [some (.ref (Z.2.1 0)), some (.int (nI qn)), some (.int (nI (A.1.2 0 qn))), some (.int (nI 0)), some (.int (nI 1))]) dX6_heights_20 (by decide) rfl rfl ?_
    have lp22 : ∀ (f : Nat) (v u : Nat) (y : Mt), (1 ≤ v) → (v ≤ 10) → (y.1 = x.1) → (∀ t, t ≠ 10 → y.2 t = x.2 t) → (MdR y (A.1.1, up2 A.1.2 0 qn u)) → (10 - v < f) →  J Γ y 22 [some (.ref (Z.2.1 0)), some (.int (nI qn)), some (.int (nI (A.1.2 0 qn))), some (.int (nI (bits (fun v => decide (1 ≤ v) && soR (A.1.1, up2 A.1.2 0 qn v) A.2.2.1.2 A.2.2.1.1) v))), some (.int (nI v))] [] := by
      intro f
      induction f with
      | zero =>
        intro v u y hv0 hv hyI hya hyr hf
        omega
      | succ f ih22 =>
        intro v u y hv0 hv hyI hya hyr hf
        refine J_iload C dX6_heights_22 rfl ?_
        refine J_bipush C (v := nI 9) dX6_heights_24 (by decide) ?_
        refine J_icmp_gt_n C (tgt := 61) dX6_heights_26 (by decide) (by omega) (by omega) (fun c26 => ?_) (fun c26 => ?_)
        · skip
          refine J_aload_n C dX6_heights_61 rfl rfl ?_
          refine G6_height C wd_3_21 dX6_heights_62 ?_
          refine J_iload_n C dX6_heights_65 rfl rfl ?_
          refine J_iload_n C dX6_heights_66 rfl rfl ?_
          refine SM_height C (by omega) dX6_heights_67 ?_
          refine J_iload_n C dX6_heights_68 rfl rfl ?_
          exact E dX6_heights_69 (⟨by rw [R_heights, if_pos c5, show v = 10 by omega]; simp only [tnq], absM_fr hA (by have g : MdR (mA y 10 (upd (y.2 10) qn (nI (A.1.2 0 qn)))) (A.1.1, up2 (up2 A.1.2 0 qn u) 0 qn (A.1.2 0 qn)) := hyr.setA (t := 0) (i := qn) (v := A.1.2 0 qn) (by omega); rw [up2_up2, up2_same] at g; exact g) (fun i _ => congrFun hyI i) (fun t ht => (mA_ne (by omega)).trans (hya t (by omega)))⟩)
        · skip
          refine J_aload_n C dX6_heights_29 rfl rfl ?_
          refine G6_height C wd_3_21 dX6_heights_30 ?_
          refine J_iload_n C dX6_heights_33 rfl rfl ?_
          refine J_iload C dX6_heights_34 rfl ?_
          refine SM_height C (by omega) dX6_heights_36 ?_
          have hyr2 : MdR (mA y 10 (upd (y.2 10) qn (nI v))) (A.1.1, up2 A.1.2 0 qn v) := by have g : MdR (mA y 10 (upd (y.2 10) qn (nI v))) (A.1.1, up2 (up2 A.1.2 0 qn u) 0 qn v) := hyr.setA (t := 0) (i := qn) (v := v) (by omega); rw [up2_up2] at g; exact g
          have hyI2 : ((mA y 10 (upd (y.2 10) qn (nI v)))).1 = x.1 := hyI
          have hya2 : ∀ t, t ≠ 10 → ((mA y 10 (upd (y.2 10) qn (nI v)))).2 t = x.2 t := fun t ht => (mA_ne ht).trans (hya t ht)
          generalize mA y 10 (upd (y.2 10) qn (nI v)) = y2 at hyr2 hyI2 hya2 ⊢
          refine J_iload_n C dX6_heights_37 rfl rfl ?_
          refine J_aload_n C dX6_heights_38 rfl rfl ?_
          refine J_callVz C (q0 := 0) (ci := 6) (N := 33) (As := []) (c_X6_areSo l Z _ (A.1.1, up2 A.1.2 0 qn v) hyr2 (sok_up2 (v := v) ok (by omega)) A.2.2.1 (hR.same (congrFun hyI2 29) (fun t h1 h2 => hya2 t (by omega))) hkR hkr) cw_RX6_215 wd_30_11 wd_30_12 rfl rfl rfl rfl (Nat.le_of_ble_eq_true rfl) rfl rfl (Nat.le_of_ble_eq_true rfl) (Nat.le_of_ble_eq_true rfl) dX6_heights_39 (fun b39 x39 hp39 => ?_)
          obtain ⟨rfl, rfl⟩ := hp39
          refine J_if_eq_b C (tgt := 52) dX6_heights_42 (by decide) (fun c42 => ?_) (fun c42 => ?_)
          · skip
            refine J_iconst C (v := nI 0) dX6_heights_52 (by decide) ?_
            refine J_ior C (v := nI (bits (fun v => decide (1 ≤ v) && soR (A.1.1, up2 A.1.2 0 qn v) A.2.2.1.2 A.2.2.1.1) (v + 1))) dX6_heights_53 (or_no (p := (fun v => decide (1 ≤ v) && soR (A.1.1, up2 A.1.2 0 qn v) A.2.2.1.2 A.2.2.1.1)) (by simp only [c42, Bool.and_false]; decide)) ?_
            refine J_istore_n C (L' := [some (.ref (Z.2.1 0)), some (.int (nI qn)), some (.int (nI (A.1.2 0 qn))), some (.int (nI (bits (fun v => decide (1 ≤ v) && soR (A.1.1, up2 A.1.2 0 qn v) A.2.2.1.2 A.2.2.1.1) (v + 1)))), some (.int (nI v))]) dX6_heights_54 rfl (by decide) rfl rfl ?_
            refine J_iinc C (v := nI (v + 1)) (L' := [some (.ref (Z.2.1 0)), some (.int (nI qn)), some (.int (nI (A.1.2 0 qn))), some (.int (nI (bits (fun v => decide (1 ≤ v) && soR (A.1.1, up2 A.1.2 0 qn v) A.2.2.1.2 A.2.2.1.1) (v + 1)))), some (.int (nI (v + 1)))]) dX6_heights_55 rfl (nI_1 _) (by decide) rfl rfl ?_
            refine J_goto (tgt := 22) C dX6_heights_58 (by decide) ?_
            refine J_drop ?_ (ih22 (v + 1) v y2 (by omega) (by omega) hyI2 hya2 hyr2 (by omega))
            exact ⟨rfl, rfl, rfl, rfl, rfl, trivial⟩
          · skip
            refine J_iconst C (v := nI 1) dX6_heights_45 (by decide) ?_
            refine J_iload C dX6_heights_46 rfl ?_
            refine J_ishl C (v := nI (2 ^ v)) dX6_heights_48 (sh1 _ (by omega)) ?_
            refine J_goto (tgt := 53) C dX6_heights_49 (by decide) ?_
            refine J_ior C (v := nI (bits (fun v => decide (1 ≤ v) && soR (A.1.1, up2 A.1.2 0 qn v) A.2.2.1.2 A.2.2.1.1) (v + 1))) dX6_heights_53 (bits_or (p := (fun v => decide (1 ≤ v) && soR (A.1.1, up2 A.1.2 0 qn v) A.2.2.1.2 A.2.2.1.1)) (by simp only [Bool.and_eq_true, decide_eq_true_eq]; exact ⟨hv0, c42⟩)) ?_
            refine J_istore_n C (L' := [some (.ref (Z.2.1 0)), some (.int (nI qn)), some (.int (nI (A.1.2 0 qn))), some (.int (nI (bits (fun v => decide (1 ≤ v) && soR (A.1.1, up2 A.1.2 0 qn v) A.2.2.1.2 A.2.2.1.1) (v + 1)))), some (.int (nI v))]) dX6_heights_54 rfl (by decide) rfl rfl ?_
            refine J_iinc C (v := nI (v + 1)) (L' := [some (.ref (Z.2.1 0)), some (.int (nI qn)), some (.int (nI (A.1.2 0 qn))), some (.int (nI (bits (fun v => decide (1 ≤ v) && soR (A.1.1, up2 A.1.2 0 qn v) A.2.2.1.2 A.2.2.1.1) (v + 1)))), some (.int (nI (v + 1)))]) dX6_heights_55 rfl (nI_1 _) (by decide) rfl rfl ?_
            refine J_goto (tgt := 22) C dX6_heights_58 (by decide) ?_
            refine J_drop ?_ (ih22 (v + 1) v y2 (by omega) (by omega) hyI2 hya2 hyr2 (by omega))
            exact ⟨rfl, rfl, rfl, rfl, rfl, trivial⟩
    refine J_drop ?_ (lp22 (10 + 1) 1 (A.1.2 0 qn) x (by omega) (by omega) rfl (fun _ _ => rfl) (by rw [up2_same]; exact hr) (by omega))
    exact ⟨rfl, rfl, rfl, bits1V (by simp), rfl, trivial⟩
  · skip
    refine J_iconst C (v := (-1)) dX6_heights_8 (by decide) ?_
    exact E dX6_heights_9 (⟨by rw [R_heights, if_neg c5], hA⟩)
def rm_X6_kinds : Room := ({ frames := 2, cells := 0, slots := 0, locals := 47 })
set_option maxRecDepth 20000 in
theorem c_X6_kinds (l : Launch) (Z : EC) (x : Mt) (A : AB) (hA : AbsM x A) (hk : AOK A) (m : Int32) : MIi l Z (wM Z) yX6_kinds cX6_kinds 5 rm_X6_kinds [.ref (Z.2.1 0), .int m] x (fun r x1 => r = R_kinds A m ∧ AbsM x1 A) := by
  obtain ⟨hr, hH, hR, hT, hF⟩ := id hA
  obtain ⟨ok, hkH, hkR, hkr⟩ := id hk
  obtain ⟨ok0, ok1, ok2, ok3, ok4, ok5, ok6, ok7⟩ := id ok
  refine MIi_of (own := RX6) (L0 := [some (.ref (Z.2.1 0)), some (.int m), none, none, none]) (by decide) rfl (Nat.le_of_ble_eq_true rfl) ⟨rfl, rfl, trivial⟩ ?_
  intro Γ C E
  refine J_aload_n C dX6_kinds_0 rfl rfl ?_
  refine J_iload_n C dX6_kinds_1 rfl rfl ?_
  refine J_callVz C (q0 := 0) (ci := 6) (N := 33) (As := [.int m]) (c_X6_isMember l Z _ A.1 hr ok _) cw_RX6_154 wd_13_14 wd_13_15 rfl rfl rfl rfl (Nat.le_of_ble_eq_true rfl) rfl rfl (Nat.le_of_ble_eq_true rfl) (Nat.le_of_ble_eq_true rfl) dX6_kinds_2 (fun b2 x2 hp2 => ?_)
  obtain ⟨rfl, rfl⟩ := hp2
  refine J_if_ne_d C (tgt := 10) dX6_kinds_5 (by decide) (fun c5 => ?_) (fun c5 => ?_)
  · skip
    obtain ⟨mn, hmn, rfl⟩ := rng_nat c5
    have tnm := tn_nI (n := mn) (by omega)
    have gm := ok6 mn hmn
    have hs1 := ok7 (by omega)
    refine J_aload_n C dX6_kinds_10 rfl rfl ?_
    refine G6_kind C wd_3_23 dX6_kinds_11 ?_
    refine J_iload_n C dX6_kinds_14 rfl rfl ?_
    refine LMn_kind hr ok C (by omega) dX6_kinds_15 ?_
    refine J_istore_n C (L' := [some (.ref (Z.2.1 0)), some (.int (nI mn)), some (.int (nI (A.1.2 2 mn))), none, none]) dX6_kinds_16 rfl (by decide) rfl rfl ?_
    refine J_iconst C (v := nI 0) dX6_kinds_17 (by decide) ?_
    refine J_istore_n C (L' := [some (.ref (Z.2.1 0)), some (.int (nI mn)), some (.int (nI (A.1.2 2 mn))), some (.int (nI 0)), none]) dX6_kinds_18 rfl (by decide) rfl rfl ?_
    refine J_iconst C (v := nI 0) dX6_kinds_19 (by decide) ?_
    refine J_istore C (L' := [some (.ref (Z.2.1 0)), some (.int (nI mn)), some (.int (nI (A.1.2 2 mn))), some (.int (nI 0)), some (.int (nI 0))]) dX6_kinds_20 (by decide) rfl rfl ?_
    have lp22 : ∀ (f : Nat) (v u : Nat) (y : Mt), (0 ≤ v) → (v ≤ 3) → (y.1 = x.1) → (∀ t, t ≠ 12 → y.2 t = x.2 t) → (MdR y (A.1.1, up2 A.1.2 2 mn u)) → (3 - v < f) →  J Γ y 22 [some (.ref (Z.2.1 0)), some (.int (nI mn)), some (.int (nI (A.1.2 2 mn))), some (.int (nI (bits (fun v => soR (A.1.1, up2 A.1.2 2 mn v) A.2.2.1.2 A.2.2.1.1) v))), some (.int (nI v))] [] := by
      intro f
      induction f with
      | zero =>
        intro v u y hv0 hv hyI hya hyr hf
        omega
      | succ f ih22 =>
        intro v u y hv0 hv hyI hya hyr hf
        refine J_iload C dX6_kinds_22 rfl ?_
        refine J_iconst C (v := nI 3) dX6_kinds_24 (by decide) ?_
        refine J_icmp_ge_n C (tgt := 60) dX6_kinds_25 (by decide) (by omega) (by omega) (fun c25 => ?_) (fun c25 => ?_)
        · skip
          refine J_aload_n C dX6_kinds_60 rfl rfl ?_
          refine G6_kind C wd_3_23 dX6_kinds_61 ?_
          refine J_iload_n C dX6_kinds_64 rfl rfl ?_
          refine J_iload_n C dX6_kinds_65 rfl rfl ?_
          refine SM_kind C (by omega) dX6_kinds_66 ?_
          refine J_iload_n C dX6_kinds_67 rfl rfl ?_
          exact E dX6_kinds_68 (⟨by rw [R_kinds, if_pos c5, show v = 3 by omega]; simp only [tnm], absM_fr hA (by have g : MdR (mA y 12 (upd (y.2 12) mn (nI (A.1.2 2 mn)))) (A.1.1, up2 (up2 A.1.2 2 mn u) 2 mn (A.1.2 2 mn)) := hyr.setA (t := 2) (i := mn) (v := A.1.2 2 mn) (by omega); rw [up2_up2, up2_same] at g; exact g) (fun i _ => congrFun hyI i) (fun t ht => (mA_ne (by omega)).trans (hya t (by omega)))⟩)
        · skip
          refine J_aload_n C dX6_kinds_28 rfl rfl ?_
          refine G6_kind C wd_3_23 dX6_kinds_29 ?_
          refine J_iload_n C dX6_kinds_32 rfl rfl ?_
          refine J_iload C dX6_kinds_33 rfl ?_
          refine SM_kind C (by omega) dX6_kinds_35 ?_
          have hyr2 : MdR (mA y 12 (upd (y.2 12) mn (nI v))) (A.1.1, up2 A.1.2 2 mn v) := by have g : MdR (mA y 12 (upd (y.2 12) mn (nI v))) (A.1.1, up2 (up2 A.1.2 2 mn u) 2 mn v) := hyr.setA (t := 2) (i := mn) (v := v) (by omega); rw [up2_up2] at g; exact g
          have hyI2 : ((mA y 12 (upd (y.2 12) mn (nI v)))).1 = x.1 := hyI
          have hya2 : ∀ t, t ≠ 12 → ((mA y 12 (upd (y.2 12) mn (nI v)))).2 t = x.2 t := fun t ht => (mA_ne ht).trans (hya t ht)
          generalize mA y 12 (upd (y.2 12) mn (nI v)) = y2 at hyr2 hyI2 hya2 ⊢
          refine J_iload_n C dX6_kinds_36 rfl rfl ?_
          refine J_aload_n C dX6_kinds_37 rfl rfl ?_
          refine J_callVz C (q0 := 0) (ci := 6) (N := 33) (As := []) (c_X6_areSo l Z _ (A.1.1, up2 A.1.2 2 mn v) hyr2 (sok_up2 (v := v) ok (by omega)) A.2.2.1 (hR.same (congrFun hyI2 29) (fun t h1 h2 => hya2 t (by omega))) hkR hkr) cw_RX6_215 wd_30_11 wd_30_12 rfl rfl rfl rfl (Nat.le_of_ble_eq_true rfl) rfl rfl (Nat.le_of_ble_eq_true rfl) (Nat.le_of_ble_eq_true rfl) dX6_kinds_38 (fun b38 x38 hp38 => ?_)
          obtain ⟨rfl, rfl⟩ := hp38
          refine J_if_eq_b C (tgt := 51) dX6_kinds_41 (by decide) (fun c41 => ?_) (fun c41 => ?_)
          · skip
            refine J_iconst C (v := nI 0) dX6_kinds_51 (by decide) ?_
            refine J_ior C (v := nI (bits (fun v => soR (A.1.1, up2 A.1.2 2 mn v) A.2.2.1.2 A.2.2.1.1) (v + 1))) dX6_kinds_52 (or_no (p := (fun v => soR (A.1.1, up2 A.1.2 2 mn v) A.2.2.1.2 A.2.2.1.1)) (by simp only [c41]; decide)) ?_
            refine J_istore_n C (L' := [some (.ref (Z.2.1 0)), some (.int (nI mn)), some (.int (nI (A.1.2 2 mn))), some (.int (nI (bits (fun v => soR (A.1.1, up2 A.1.2 2 mn v) A.2.2.1.2 A.2.2.1.1) (v + 1)))), some (.int (nI v))]) dX6_kinds_53 rfl (by decide) rfl rfl ?_
            refine J_iinc C (v := nI (v + 1)) (L' := [some (.ref (Z.2.1 0)), some (.int (nI mn)), some (.int (nI (A.1.2 2 mn))), some (.int (nI (bits (fun v => soR (A.1.1, up2 A.1.2 2 mn v) A.2.2.1.2 A.2.2.1.1) (v + 1)))), some (.int (nI (v + 1)))]) dX6_kinds_54 rfl (nI_1 _) (by decide) rfl rfl ?_
            refine J_goto (tgt := 22) C dX6_kinds_57 (by decide) ?_
            refine J_drop ?_ (ih22 (v + 1) v y2 (by omega) (by omega) hyI2 hya2 hyr2 (by omega))
            exact ⟨rfl, rfl, rfl, rfl, rfl, trivial⟩
          · skip
            refine J_iconst C (v := nI 1) dX6_kinds_44 (by decide) ?_
            refine J_iload C dX6_kinds_45 rfl ?_
            refine J_ishl C (v := nI (2 ^ v)) dX6_kinds_47 (sh1 _ (by omega)) ?_
            refine J_goto (tgt := 52) C dX6_kinds_48 (by decide) ?_
            refine J_ior C (v := nI (bits (fun v => soR (A.1.1, up2 A.1.2 2 mn v) A.2.2.1.2 A.2.2.1.1) (v + 1))) dX6_kinds_52 (bits_or (p := (fun v => soR (A.1.1, up2 A.1.2 2 mn v) A.2.2.1.2 A.2.2.1.1)) (by exact c41)) ?_
            refine J_istore_n C (L' := [some (.ref (Z.2.1 0)), some (.int (nI mn)), some (.int (nI (A.1.2 2 mn))), some (.int (nI (bits (fun v => soR (A.1.1, up2 A.1.2 2 mn v) A.2.2.1.2 A.2.2.1.1) (v + 1)))), some (.int (nI v))]) dX6_kinds_53 rfl (by decide) rfl rfl ?_
            refine J_iinc C (v := nI (v + 1)) (L' := [some (.ref (Z.2.1 0)), some (.int (nI mn)), some (.int (nI (A.1.2 2 mn))), some (.int (nI (bits (fun v => soR (A.1.1, up2 A.1.2 2 mn v) A.2.2.1.2 A.2.2.1.1) (v + 1)))), some (.int (nI (v + 1)))]) dX6_kinds_54 rfl (nI_1 _) (by decide) rfl rfl ?_
            refine J_goto (tgt := 22) C dX6_kinds_57 (by decide) ?_
            refine J_drop ?_ (ih22 (v + 1) v y2 (by omega) (by omega) hyI2 hya2 hyr2 (by omega))
            exact ⟨rfl, rfl, rfl, rfl, rfl, trivial⟩
    refine J_drop ?_ (lp22 (3 + 1) 0 (A.1.2 2 mn) x (by omega) (by omega) rfl (fun _ _ => rfl) (by rw [up2_same]; exact hr) (by omega))
    exact ⟨rfl, rfl, rfl, rfl, rfl, trivial⟩
  · skip
    refine J_iconst C (v := (-1)) dX6_kinds_8 (by decide) ?_
    exact E dX6_kinds_9 (⟨by rw [R_kinds, if_neg c5], hA⟩)
def rm_X6_streams : Room := ({ frames := 2, cells := 0, slots := 0, locals := 47 })
set_option maxRecDepth 20000 in
theorem c_X6_streams (l : Launch) (Z : EC) (x : Mt) (A : AB) (hA : AbsM x A) (hk : AOK A)  : MIi l Z (wM Z) yX6_streams cX6_streams 4 rm_X6_streams [.ref (Z.2.1 0)] x (fun r x1 => r = R_streams A  ∧ AbsM x1 A) := by
  obtain ⟨hr, hH, hR, hT, hF⟩ := id hA
  obtain ⟨ok, hkH, hkR, hkr⟩ := id hk
  obtain ⟨ok0, ok1, ok2, ok3, ok4, ok5, ok6, ok7⟩ := id ok
  refine MIi_of (own := RX6) (L0 := [some (.ref (Z.2.1 0)), none, none, none]) (by decide) rfl (Nat.le_of_ble_eq_true rfl) ⟨rfl, trivial⟩ ?_
  intro Γ C E
  refine J_aload_n C dX6_streams_0 rfl rfl ?_
  refine G6n_pools hr C wd_10_18 dX6_streams_1 ?_
  refine J_if_ne_n C (tgt := 10) dX6_streams_4 (by decide) (by omega) (fun c4 => ?_) (fun c4 => ?_)
  · skip
    refine J_aload_n C dX6_streams_10 rfl rfl ?_
    refine G6n_stream hr C wd_10_15 dX6_streams_11 ?_
    refine J_istore_n C (L' := [some (.ref (Z.2.1 0)), some (.int (nI (A.1.1 0))), none, none]) dX6_streams_14 rfl (by decide) rfl rfl ?_
    refine J_iconst C (v := nI 0) dX6_streams_15 (by decide) ?_
    refine J_istore_n C (L' := [some (.ref (Z.2.1 0)), some (.int (nI (A.1.1 0))), some (.int (nI 0)), none]) dX6_streams_16 rfl (by decide) rfl rfl ?_
    refine J_iconst C (v := nI 1) dX6_streams_17 (by decide) ?_
    refine J_istore_n C (L' := [some (.ref (Z.2.1 0)), some (.int (nI (A.1.1 0))), some (.int (nI 0)), some (.int (nI 1))]) dX6_streams_18 rfl (by decide) rfl rfl ?_
    have lp19 : ∀ (f : Nat) (v u : Nat) (y : Mt), (1 ≤ v) → (v ≤ 4) → (∀ i, i ≠ 7 → y.1 i = x.1 i) → (y.2 = x.2) → (MdR y (up1 A.1.1 0 u, A.1.2)) → (4 - v < f) →  J Γ y 19 [some (.ref (Z.2.1 0)), some (.int (nI (A.1.1 0))), some (.int (nI (bits (fun v => decide (1 ≤ v) && soR (up1 A.1.1 0 v, A.1.2) A.2.2.1.2 A.2.2.1.1) v))), some (.int (nI v))] [] := by
      intro f
      induction f with
      | zero =>
        intro v u y hv0 hv hyI hya hyr hf
        omega
      | succ f ih19 =>
        intro v u y hv0 hv hyI hya hyr hf
        refine J_iload_n C dX6_streams_19 rfl rfl ?_
        refine J_iconst C (v := nI 3) dX6_streams_20 (by decide) ?_
        refine J_icmp_gt_n C (tgt := 52) dX6_streams_21 (by decide) (by omega) (by omega) (fun c21 => ?_) (fun c21 => ?_)
        · skip
          refine J_aload_n C dX6_streams_52 rfl rfl ?_
          refine J_iload_n C dX6_streams_53 rfl rfl ?_
          refine P6_stream C wd_10_15 dX6_streams_54 ?_
          refine J_iload_n C dX6_streams_57 rfl rfl ?_
          exact E dX6_streams_58 (⟨by rw [R_streams, if_neg c4, show v = 4 by omega], absM_fr hA (by have g : MdR (mI y 7 (nI (A.1.1 0))) (up1 (up1 A.1.1 0 u) 0 (A.1.1 0), A.1.2) := hyr.setI (i := 0) (v := A.1.1 0) (by omega); rw [up1_up1, up1_same] at g; exact g) (fun i hi => (mI_ne (by omega)).trans (hyI i (by omega))) (fun t _ => congrFun hya t)⟩)
        · skip
          refine J_aload_n C dX6_streams_24 rfl rfl ?_
          refine J_iload_n C dX6_streams_25 rfl rfl ?_
          refine P6_stream C wd_10_15 dX6_streams_26 ?_
          have hyr2 : MdR (mI y 7 (nI v)) (up1 A.1.1 0 v, A.1.2) := by have g : MdR (mI y 7 (nI v)) (up1 (up1 A.1.1 0 u) 0 v, A.1.2) := hyr.setI (i := 0) (v := v) (by omega); rw [up1_up1] at g; exact g
          have hyI2 : ∀ i, i ≠ 7 → ((mI y 7 (nI v))).1 i = x.1 i := fun i hi => (mI_ne hi).trans (hyI i hi)
          have hya2 : ((mI y 7 (nI v))).2 = x.2 := hya
          generalize mI y 7 (nI v) = y2 at hyr2 hyI2 hya2 ⊢
          refine J_iload_n C dX6_streams_29 rfl rfl ?_
          refine J_aload_n C dX6_streams_30 rfl rfl ?_
          refine J_callVz C (q0 := 0) (ci := 6) (N := 33) (As := []) (c_X6_areSo l Z _ (up1 A.1.1 0 v, A.1.2) hyr2 (sok_up1 (v := v) ok (by omega) (by omega)) A.2.2.1 (hR.same (hyI2 29 (by decide)) (fun t h1 h2 => congrFun hya2 t)) hkR hkr) cw_RX6_215 wd_30_11 wd_30_12 rfl rfl rfl rfl (Nat.le_of_ble_eq_true rfl) rfl rfl (Nat.le_of_ble_eq_true rfl) (Nat.le_of_ble_eq_true rfl) dX6_streams_31 (fun b31 x31 hp31 => ?_)
          obtain ⟨rfl, rfl⟩ := hp31
          refine J_if_eq_b C (tgt := 43) dX6_streams_34 (by decide) (fun c34 => ?_) (fun c34 => ?_)
          · skip
            refine J_iconst C (v := nI 0) dX6_streams_43 (by decide) ?_
            refine J_ior C (v := nI (bits (fun v => decide (1 ≤ v) && soR (up1 A.1.1 0 v, A.1.2) A.2.2.1.2 A.2.2.1.1) (v + 1))) dX6_streams_44 (or_no (p := (fun v => decide (1 ≤ v) && soR (up1 A.1.1 0 v, A.1.2) A.2.2.1.2 A.2.2.1.1)) (by simp only [c34, Bool.and_false]; decide)) ?_
            refine J_istore_n C (L' := [some (.ref (Z.2.1 0)), some (.int (nI (A.1.1 0))), some (.int (nI (bits (fun v => decide (1 ≤ v) && soR (up1 A.1.1 0 v, A.1.2) A.2.2.1.2 A.2.2.1.1) (v + 1)))), some (.int (nI v))]) dX6_streams_45 rfl (by decide) rfl rfl ?_
            refine J_iinc C (v := nI (v + 1)) (L' := [some (.ref (Z.2.1 0)), some (.int (nI (A.1.1 0))), some (.int (nI (bits (fun v => decide (1 ≤ v) && soR (up1 A.1.1 0 v, A.1.2) A.2.2.1.2 A.2.2.1.1) (v + 1)))), some (.int (nI (v + 1)))]) dX6_streams_46 rfl (nI_1 _) (by decide) rfl rfl ?_
            refine J_goto (tgt := 19) C dX6_streams_49 (by decide) ?_
            refine J_drop ?_ (ih19 (v + 1) v y2 (by omega) (by omega) hyI2 hya2 hyr2 (by omega))
            exact ⟨rfl, rfl, rfl, rfl, trivial⟩
          · skip
            refine J_iconst C (v := nI 1) dX6_streams_37 (by decide) ?_
            refine J_iload_n C dX6_streams_38 rfl rfl ?_
            refine J_ishl C (v := nI (2 ^ v)) dX6_streams_39 (sh1 _ (by omega)) ?_
            refine J_goto (tgt := 44) C dX6_streams_40 (by decide) ?_
            refine J_ior C (v := nI (bits (fun v => decide (1 ≤ v) && soR (up1 A.1.1 0 v, A.1.2) A.2.2.1.2 A.2.2.1.1) (v + 1))) dX6_streams_44 (bits_or (p := (fun v => decide (1 ≤ v) && soR (up1 A.1.1 0 v, A.1.2) A.2.2.1.2 A.2.2.1.1)) (by simp only [Bool.and_eq_true, decide_eq_true_eq]; exact ⟨hv0, c34⟩)) ?_
            refine J_istore_n C (L' := [some (.ref (Z.2.1 0)), some (.int (nI (A.1.1 0))), some (.int (nI (bits (fun v => decide (1 ≤ v) && soR (up1 A.1.1 0 v, A.1.2) A.2.2.1.2 A.2.2.1.1) (v + 1)))), some (.int (nI v))]) dX6_streams_45 rfl (by decide) rfl rfl ?_
            refine J_iinc C (v := nI (v + 1)) (L' := [some (.ref (Z.2.1 0)), some (.int (nI (A.1.1 0))), some (.int (nI (bits (fun v => decide (1 ≤ v) && soR (up1 A.1.1 0 v, A.1.2) A.2.2.1.2 A.2.2.1.1) (v + 1)))), some (.int (nI (v + 1)))]) dX6_streams_46 rfl (nI_1 _) (by decide) rfl rfl ?_
            refine J_goto (tgt := 19) C dX6_streams_49 (by decide) ?_
            refine J_drop ?_ (ih19 (v + 1) v y2 (by omega) (by omega) hyI2 hya2 hyr2 (by omega))
            exact ⟨rfl, rfl, rfl, rfl, trivial⟩
    refine J_drop ?_ (lp19 (4 + 1) 1 (A.1.1 0) x (by omega) (by omega) (fun _ _ => rfl) rfl (by rw [up1_same]; exact hr) (by omega))
    exact ⟨rfl, rfl, bits1V (by simp), rfl, trivial⟩
  · skip
    refine J_bipush C (v := (-3)) dX6_streams_7 (by decide) ?_
    exact E dX6_streams_9 (⟨by rw [R_streams, if_pos c4], hA⟩)
def rm_X6_inLeastTerms : Room := ({ frames := 0, cells := 0, slots := 0, locals := 0 })
set_option maxRecDepth 20000 in
theorem c_X6_inLeastTerms (l : Launch) (Z : EC) (x : Mt) (u : Nat) (hu : u ≤ 100) (w : Int32) : MIl l Z (wM Z) yX6_inLeastTerms cX6_inLeastTerms 11 rm_X6_inLeastTerms [.long (lN u), .long (lN 100), .int w] x (fun r x1 => r = (if w = nI 0 then lN (u / gcd100 u 100) else lN (100 / gcd100 u 100)) ∧ x = x1) := by
  have hgg := gcd_is u hu
  refine MIl_of (own := RX6) (L0 := [some (.long (lN u)), none, some (.long (lN 100)), none, some (.int w), none, none, none, none, none, none]) (by decide) rfl (Nat.le_of_ble_eq_true rfl) ⟨rfl, rfl, rfl, trivial⟩ ?_
  intro Γ C E
  refine J_lload_n C dX6_inLeastTerms_0 rfl rfl ?_
  refine J_lstore C (L' := [some (.long (lN u)), none, some (.long (lN 100)), none, some (.int w), some (.long (lN u)), none, none, none, none, none]) dX6_inLeastTerms_1 (by decide) rfl rfl ?_
  refine J_lload_n C dX6_inLeastTerms_3 rfl rfl ?_
  refine J_lstore C (L' := [some (.long (lN u)), none, some (.long (lN 100)), none, some (.int w), some (.long (lN u)), none, some (.long (lN 100)), none, none, none]) dX6_inLeastTerms_4 (by decide) rfl rfl ?_
  have lp6 : ∀ (f : Nat) (p d : Nat), (p ≤ 100) → (d ≤ 100) → (Nat.gcd p d = gcd100 u 100) → (d < f) →  J Γ x 6 [some (.long (lN u)), none, some (.long (lN 100)), none, some (.int w), some (.long (lN p)), none, some (.long (lN d)), none, none, none] [] := by
    intro f
    induction f with
    | zero =>
      intro p d hp hd hg hf
      omega
    | succ f ih6 =>
      intro p d hp hd hg hf
      have hg1 := gcd_pos u hu
      refine J_lload C dX6_inLeastTerms_6 rfl ?_
      refine J_lconst C (v := 0) dX6_inLeastTerms_8 (by decide) ?_
      refine J_lcmp C dX6_inLeastTerms_9 ?_
      refine J_if_eq C (tgt := 31) dX6_inLeastTerms_10 (by decide) (fun c10 => ?_) (fun c10 => ?_)
      · skip
        have hd0 := cmp_0 hd c10
        have hp0 : p = gcd100 u 100 := by rw [← hg, hd0]; exact (Nat.gcd_zero_right p).symm
        refine J_iload C dX6_inLeastTerms_31 rfl ?_
        refine J_if_ne C (tgt := 43) dX6_inLeastTerms_33 (by decide) (fun c33 => ?_) (fun c33 => ?_)
        · skip
          refine J_lload_n C dX6_inLeastTerms_43 rfl rfl ?_
          refine J_lload C dX6_inLeastTerms_44 rfl ?_
          refine J_ldiv C (v := lN (100 / p)) dX6_inLeastTerms_46 (fun e => absurd ((pk_lEQ (b := 0) (by omega) (by omega)).mp e) (by omega)) (pk_lDiv (by omega) (by omega) (by omega)) ?_
          exact E dX6_inLeastTerms_47 (⟨by rw [if_neg (show ¬ w = nI 0 from c33), hp0], rfl⟩)
        · skip
          refine J_lload_n C dX6_inLeastTerms_36 rfl rfl ?_
          refine J_lload C dX6_inLeastTerms_37 rfl ?_
          refine J_ldiv C (v := lN (u / p)) dX6_inLeastTerms_39 (fun e => absurd ((pk_lEQ (b := 0) (by omega) (by omega)).mp e) (by omega)) (pk_lDiv (by omega) (by omega) (by omega)) ?_
          refine J_goto (tgt := 47) C dX6_inLeastTerms_40 (by decide) ?_
          exact E dX6_inLeastTerms_47 (⟨by rw [if_pos (show w = nI 0 from c33), hp0], rfl⟩)
      · skip
        have hd0 : d ≠ 0 := fun e => c10 (by rw [e]; decide)
        refine J_lload C dX6_inLeastTerms_13 rfl ?_
        refine J_lload C dX6_inLeastTerms_15 rfl ?_
        refine J_lrem C (v := lN (p % d)) dX6_inLeastTerms_17 (fun e => hd0 ((pk_lEQ (b := 0) (by omega) (by omega)).mp e)) (pk_lRem (by omega) (by omega) (by omega)) ?_
        refine J_lstore C (L' := [some (.long (lN u)), none, some (.long (lN 100)), none, some (.int w), some (.long (lN p)), none, some (.long (lN d)), none, some (.long (lN (p % d))), none]) dX6_inLeastTerms_18 (by decide) rfl rfl ?_
        refine J_lload C dX6_inLeastTerms_20 rfl ?_
        refine J_lstore C (L' := [some (.long (lN u)), none, some (.long (lN 100)), none, some (.int w), some (.long (lN d)), none, some (.long (lN d)), none, some (.long (lN (p % d))), none]) dX6_inLeastTerms_22 (by decide) rfl rfl ?_
        refine J_lload C dX6_inLeastTerms_24 rfl ?_
        refine J_lstore C (L' := [some (.long (lN u)), none, some (.long (lN 100)), none, some (.int w), some (.long (lN d)), none, some (.long (lN (p % d))), none, some (.long (lN (p % d))), none]) dX6_inLeastTerms_26 (by decide) rfl rfl ?_
        refine J_goto (tgt := 6) C dX6_inLeastTerms_28 (by decide) ?_
        refine J_drop ?_ (ih6 d (p % d) hd (by have := Nat.mod_lt p (show 0 < d by omega); omega) (by rw [← hg, Nat.gcd_comm p d, Nat.gcd_rec d p]; exact Nat.gcd_comm _ _) (by have := Nat.mod_lt p (show 0 < d by omega); omega))
        exact ⟨rfl, rfl, rfl, rfl, rfl, trivial⟩
  refine J_drop ?_ (lp6 (100 + 1) u 100 hu (by omega) hgg.symm (by omega))
  exact ⟨rfl, rfl, rfl, rfl, rfl, trivial⟩
def rm_X6_odds : Room := ({ frames := 1, cells := 0, slots := 0, locals := 30 })
set_option maxRecDepth 20000 in
theorem c_X6_odds (l : Launch) (Z : EC) (x : Mt) (A : AB) (hA : AbsM x A) (hk : AOK A) (m q w : Int32) : MIl l Z (wM Z) yX6_odds cX6_odds 8 rm_X6_odds [.ref (Z.2.1 0), .int m, .int q, .int w] x (fun r x1 => r = R_odds A m q w ∧ AbsM x1 A) := by
  obtain ⟨hr, hH, hR, hT, hF⟩ := id hA
  obtain ⟨ok, hkH, hkR, hkr⟩ := id hk
  obtain ⟨ok0, ok1, ok2, ok3, ok4, ok5, ok6, ok7⟩ := id ok
  refine MIl_of (own := RX6) (L0 := [some (.ref (Z.2.1 0)), some (.int m), some (.int q), some (.int w), none, none, none, none]) (by decide) rfl (Nat.le_of_ble_eq_true rfl) ⟨rfl, rfl, rfl, rfl, trivial⟩ ?_
  intro Γ C E
  refine J_aload_n C dX6_odds_0 rfl rfl ?_
  refine J_iload_n C dX6_odds_1 rfl rfl ?_
  refine J_callVz C (q0 := 0) (ci := 6) (N := 33) (As := [.int m]) (c_X6_isMember l Z _ A.1 hr ok _) cw_RX6_154 wd_13_14 wd_13_15 rfl rfl rfl rfl (Nat.le_of_ble_eq_true rfl) rfl rfl (Nat.le_of_ble_eq_true rfl) (Nat.le_of_ble_eq_true rfl) dX6_odds_2 (fun b2 x2 hp2 => ?_)
  obtain ⟨rfl, rfl⟩ := hp2
  refine J_if_eq_d C (tgt := 25) dX6_odds_5 (by decide) (fun c5 => ?_) (fun c5 => ?_)
  · skip
    refine J_ldc2 C wd_31_22 dX6_odds_25 ?_
    exact E dX6_odds_28 (⟨by rw [R_odds, if_neg c5] <;> first | rfl | simp only [tnm, tnq], hA⟩)
  · skip
    obtain ⟨mn, hmn, rfl⟩ := rng_nat c5
    have tnm := tn_nI (n := mn) (by omega)
    have gm := ok6 mn hmn
    have hs1 := ok7 (by omega)
    refine J_aload_n C dX6_odds_8 rfl rfl ?_
    refine J_iload_n C dX6_odds_9 rfl rfl ?_
    refine J_callVz C (q0 := 0) (ci := 6) (N := 33) (As := [.int q]) (c_X6_isPool l Z _ A.1 hr ok _) cw_RX6_145 wd_12_8 wd_12_9 rfl rfl rfl rfl (Nat.le_of_ble_eq_true rfl) rfl rfl (Nat.le_of_ble_eq_true rfl) (Nat.le_of_ble_eq_true rfl) dX6_odds_10 (fun b10 x10 hp10 => ?_)
    obtain ⟨rfl, rfl⟩ := hp10
    refine J_if_eq_d C (tgt := 25) dX6_odds_13 (by decide) (fun c13 => ?_) (fun c13 => ?_)
    · skip
      refine J_ldc2 C wd_31_22 dX6_odds_25 ?_
      exact E dX6_odds_28 (⟨by rw [R_odds, if_pos c5, if_neg c13] <;> first | rfl | simp only [tnm, tnq], hA⟩)
    · skip
      obtain ⟨qn, hqn, rfl⟩ := rng_nat c13
      have tnq := tn_nI (n := qn) (by omega)
      have gq := ok5 qn hqn
      refine J_iload_n C dX6_odds_16 rfl rfl ?_
      refine J_iconst C (v := nI 0) dX6_odds_17 (by decide) ?_
      refine J_iconst C (v := nI 1) dX6_odds_18 (by decide) ?_
      refine J_callSz C (As := [.int w, .int (nI 0), .int (nI 1)]) (c_X6_within l Z _ _ _ _ (0) (1) (by decide) (by decide)) cw_RX6_70 wd_8_21 rfl rfl (Nat.le_of_ble_eq_true rfl) rfl rfl (Nat.le_of_ble_eq_true rfl) (Nat.le_of_ble_eq_true rfl) dX6_odds_19 (fun b19 x19 hp19 => ?_)
      obtain ⟨rfl, rfl⟩ := hp19
      refine J_if_ne_d C (tgt := 29) dX6_odds_22 (by decide) (fun c22 => ?_) (fun c22 => ?_)
      · skip
        refine J_aload_n C dX6_odds_29 rfl rfl ?_
        refine J_iload_n C dX6_odds_30 rfl rfl ?_
        have hst := stp_le (k := A.1.2 2 mn) ok0
        refine J_callVi C (q0 := 0) (ci := 6) (N := 33) (As := [.int (nI mn)]) (c_X6_farOf l Z _ A.1 hr ok _ hmn) cw_RX6_157 wd_13_18 wd_13_19 rfl rfl rfl rfl (Nat.le_of_ble_eq_true rfl) rfl rfl (Nat.le_of_ble_eq_true rfl) (Nat.le_of_ble_eq_true rfl) dX6_odds_31 (fun r31 x31 hp31 => ?_)
        obtain ⟨rfl, rfl⟩ := hp31
        refine J_istore C (L' := [some (.ref (Z.2.1 0)), some (.int (nI mn)), some (.int (nI qn)), some (.int w), some (.int (nI (stp (A.1.1 0) (A.1.2 2 mn)))), none, none, none]) dX6_odds_34 (by decide) rfl rfl ?_
        refine J_iconst C (v := nI 0) dX6_odds_36 (by decide) ?_
        refine J_istore C (L' := [some (.ref (Z.2.1 0)), some (.int (nI mn)), some (.int (nI qn)), some (.int w), some (.int (nI (stp (A.1.1 0) (A.1.2 2 mn)))), some (.int (nI 0)), none, none]) dX6_odds_37 (by decide) rfl rfl ?_
        refine J_iconst C (v := nI 0) dX6_odds_39 (by decide) ?_
        refine J_istore C (L' := [some (.ref (Z.2.1 0)), some (.int (nI mn)), some (.int (nI qn)), some (.int w), some (.int (nI (stp (A.1.1 0) (A.1.2 2 mn)))), some (.int (nI 0)), some (.int (nI 0)), none]) dX6_odds_40 (by decide) rfl rfl ?_
        have lp42 : ∀ (f : Nat) (t : Nat), (t ≤ 100) → (100 - t < f) →  J Γ x 42 [some (.ref (Z.2.1 0)), some (.int (nI mn)), some (.int (nI qn)), some (.int w), some (.int (nI (stp (A.1.1 0) (A.1.2 2 mn)))), some (.int (nI (pairs A.1 mn qn t))), some (.int (nI t)), none] [] := by
          intro f
          induction f with
          | zero =>
            intro t ht hf
            omega
          | succ f ih42 =>
            intro t ht hf
            refine J_iload C dX6_odds_42 rfl ?_
            refine J_bipush C (v := nI 100) dX6_odds_44 (by decide) ?_
            refine J_icmp_ge_n C (tgt := 101) dX6_odds_46 (by decide) (by omega) (by omega) (fun c46 => ?_) (fun c46 => ?_)
            · skip
              refine J_iload C dX6_odds_101 rfl ?_
              have hpl := pairs_le A.1 mn qn t
              have ht1 : t = 100 := by omega
              subst ht1
              refine J_i2l C (v := lN (pairs A.1 mn qn 100)) dX6_odds_103 (nI_l (by omega)) ?_
              refine J_ldc2 C wd_31_23 dX6_odds_104 ?_
              refine J_iload_n C dX6_odds_107 rfl rfl ?_
              refine J_callSl C (As := [.long (lN (pairs A.1 mn qn 100)), .long (100), .int w]) (c_X6_inLeastTerms l Z _ _ (pairs_le A.1 mn qn 100) _) cw_RX6_221 wd_32_1 rfl rfl (Nat.le_of_ble_eq_true rfl) rfl rfl (Nat.le_of_ble_eq_true rfl) (Nat.le_of_ble_eq_true rfl) dX6_odds_108 (fun r108 x108 hp108 => ?_)
              obtain ⟨rfl, rfl⟩ := hp108
              exact E dX6_odds_111 (⟨by rw [R_odds, if_pos c5, if_pos c13, if_pos c22]; simp only [tnm, tnq], hA⟩)
            · skip
              have hcl : carry A.1 (A.1.2 3 mn) (A.1.2 2 mn) (t / 10) < A.1.1 3 := carry_lt gm.2.1
              have hpl := pairs_le A.1 mn qn t
              have hc2 : carry A.1 (carry A.1 (A.1.2 3 mn) (A.1.2 2 mn) (t / 10)) (A.1.2 2 mn) (t % 10) < A.1.1 3 := carry_lt hcl
              refine J_aload_n C dX6_odds_49 rfl rfl ?_
              refine J_aload_n C dX6_odds_50 rfl rfl ?_
              refine G6_poolOf C wd_4_0 dX6_odds_51 ?_
              refine J_iload_n C dX6_odds_54 rfl rfl ?_
              refine LMn_poolOf hr ok C (by omega) dX6_odds_55 ?_
              refine J_iload C dX6_odds_56 rfl ?_
              refine J_iload C dX6_odds_58 rfl ?_
              refine J_bipush C (v := nI 10) dX6_odds_60 (by decide) ?_
              refine J_idiv C (v := nI (t / 10)) dX6_odds_62 (nI_ne0 (by omega) (by omega)) (pk_div (by omega) (by omega) (by omega)) ?_
              refine J_callVi C (q0 := 0) (ci := 6) (N := 33) (As := [.int (nI (A.1.2 3 mn)), .int (nI (stp (A.1.1 0) (A.1.2 2 mn))), .int (nI (t / 10))]) (c_X6_carriedFrom l Z _ A.1 hr ok (A.1.2 3 mn) (stp (A.1.1 0) (A.1.2 2 mn)) (t / 10) gm.2.1 hst (by omega)) cw_RX6_166 wd_18_8 wd_18_9 rfl rfl rfl rfl (Nat.le_of_ble_eq_true rfl) rfl rfl (Nat.le_of_ble_eq_true rfl) (Nat.le_of_ble_eq_true rfl) dX6_odds_63 (fun r63 x63 hp63 => ?_)
              obtain ⟨hv63, rfl⟩ := hp63
              have hv63 : r63 = nI (carry A.1 (A.1.2 3 mn) (A.1.2 2 mn) (t / 10)) := hv63
              subst hv63
              refine J_istore C (L' := [some (.ref (Z.2.1 0)), some (.int (nI mn)), some (.int (nI qn)), some (.int w), some (.int (nI (stp (A.1.1 0) (A.1.2 2 mn)))), some (.int (nI (pairs A.1 mn qn t))), some (.int (nI t)), some (.int (nI (carry A.1 (A.1.2 3 mn) (A.1.2 2 mn) (t / 10))))]) dX6_odds_66 (by decide) rfl rfl ?_
              refine J_iload C dX6_odds_68 rfl ?_
              refine J_aload_n C dX6_odds_70 rfl rfl ?_
              refine J_iload C dX6_odds_71 rfl ?_
              refine J_iload C dX6_odds_73 rfl ?_
              refine J_iload C dX6_odds_75 rfl ?_
              refine J_bipush C (v := nI 10) dX6_odds_77 (by decide) ?_
              refine J_irem C (v := nI (t % 10)) dX6_odds_79 (nI_ne0 (by omega) (by omega)) (pk_rem (by omega) (by omega) (by omega)) ?_
              refine J_callVi C (q0 := 0) (ci := 6) (N := 33) (As := [.int (nI (carry A.1 (A.1.2 3 mn) (A.1.2 2 mn) (t / 10))), .int (nI (stp (A.1.1 0) (A.1.2 2 mn))), .int (nI (t % 10))]) (c_X6_carriedFrom l Z _ A.1 hr ok (carry A.1 (A.1.2 3 mn) (A.1.2 2 mn) (t / 10)) (stp (A.1.1 0) (A.1.2 2 mn)) (t % 10) hcl hst (by omega)) cw_RX6_166 wd_18_8 wd_18_9 rfl rfl rfl rfl (Nat.le_of_ble_eq_true rfl) rfl rfl (Nat.le_of_ble_eq_true rfl) (Nat.le_of_ble_eq_true rfl) dX6_odds_80 (fun r80 x80 hp80 => ?_)
              obtain ⟨hv80, rfl⟩ := hp80
              have hv80 : r80 = nI (carry A.1 (carry A.1 (A.1.2 3 mn) (A.1.2 2 mn) (t / 10)) (A.1.2 2 mn) (t % 10)) := hv80
              subst hv80
              refine J_iload_n C dX6_odds_83 rfl rfl ?_
              refine J_icmp_ne_n C (tgt := 91) dX6_odds_84 (by decide) (by omega) (by omega) (fun c84 => ?_) (fun c84 => ?_)
              · skip
                refine J_iconst C (v := nI 0) dX6_odds_91 (by decide) ?_
                refine J_iadd C (v := nI (pairs A.1 mn qn (t + 1))) dX6_odds_92 (prs_no c84) ?_
                refine J_istore C (L' := [some (.ref (Z.2.1 0)), some (.int (nI mn)), some (.int (nI qn)), some (.int w), some (.int (nI (stp (A.1.1 0) (A.1.2 2 mn)))), some (.int (nI (pairs A.1 mn qn (t + 1)))), some (.int (nI t)), some (.int (nI (carry A.1 (A.1.2 3 mn) (A.1.2 2 mn) (t / 10))))]) dX6_odds_93 (by decide) rfl rfl ?_
                refine J_iinc C (v := nI (t + 1)) (L' := [some (.ref (Z.2.1 0)), some (.int (nI mn)), some (.int (nI qn)), some (.int w), some (.int (nI (stp (A.1.1 0) (A.1.2 2 mn)))), some (.int (nI (pairs A.1 mn qn (t + 1)))), some (.int (nI (t + 1))), some (.int (nI (carry A.1 (A.1.2 3 mn) (A.1.2 2 mn) (t / 10))))]) dX6_odds_95 rfl (nI_1 _) (by decide) rfl rfl ?_
                refine J_goto (tgt := 42) C dX6_odds_98 (by decide) ?_
                refine J_drop ?_ (ih42 (t + 1) (by omega) (by omega))
                exact ⟨rfl, rfl, rfl, rfl, rfl, rfl, rfl, trivial⟩
              · skip
                refine J_iconst C (v := nI 1) dX6_odds_87 (by decide) ?_
                refine J_goto (tgt := 92) C dX6_odds_88 (by decide) ?_
                refine J_iadd C (v := nI (pairs A.1 mn qn (t + 1))) dX6_odds_92 (prs_yes c84) ?_
                refine J_istore C (L' := [some (.ref (Z.2.1 0)), some (.int (nI mn)), some (.int (nI qn)), some (.int w), some (.int (nI (stp (A.1.1 0) (A.1.2 2 mn)))), some (.int (nI (pairs A.1 mn qn (t + 1)))), some (.int (nI t)), some (.int (nI (carry A.1 (A.1.2 3 mn) (A.1.2 2 mn) (t / 10))))]) dX6_odds_93 (by decide) rfl rfl ?_
                refine J_iinc C (v := nI (t + 1)) (L' := [some (.ref (Z.2.1 0)), some (.int (nI mn)), some (.int (nI qn)), some (.int w), some (.int (nI (stp (A.1.1 0) (A.1.2 2 mn)))), some (.int (nI (pairs A.1 mn qn (t + 1)))), some (.int (nI (t + 1))), some (.int (nI (carry A.1 (A.1.2 3 mn) (A.1.2 2 mn) (t / 10))))]) dX6_odds_95 rfl (nI_1 _) (by decide) rfl rfl ?_
                refine J_goto (tgt := 42) C dX6_odds_98 (by decide) ?_
                refine J_drop ?_ (ih42 (t + 1) (by omega) (by omega))
                exact ⟨rfl, rfl, rfl, rfl, rfl, rfl, rfl, trivial⟩
        refine J_drop ?_ (lp42 (100 + 1) 0 (by omega) (by omega))
        exact ⟨rfl, rfl, rfl, rfl, rfl, rfl, rfl, trivial⟩
      · skip
        refine J_ldc2 C wd_31_22 dX6_odds_25 ?_
        exact E dX6_odds_28 (⟨by rw [R_odds, if_pos c5, if_pos c13, if_neg c22] <;> first | rfl | simp only [tnm, tnq], hA⟩)
