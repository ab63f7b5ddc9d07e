def rm_X5_isDigit : Room := ({ frames := 1, cells := 0, slots := 0, locals := 22 })
set_option maxRecDepth 20000 in
theorem c_X5_isDigit (l : Launch) (Z : EC) (x : St) (v : Int32) : MIz l Z (wC Z) yX5_isDigit cX5_isDigit 1 rm_X5_isDigit [.int v] x (fun b x1 => b = decide (dB v) ∧ x = x1) := by
  refine MIz_of (own := RX5) (L0 := [some (.int v)]) (by decide) rfl (Nat.le_of_ble_eq_true rfl) ⟨rfl, trivial⟩ ?_
  intro Γ C E
  refine J_iload_n C dX5_isDigit_0 rfl rfl ?_
  refine J_iconst C (v := nI 0) dX5_isDigit_1 (by decide) ?_
  refine J_bipush C (v := nI 9) dX5_isDigit_2 (by decide) ?_
  refine J_callSz C (As := [.int v, .int (nI 0), .int (nI 9)]) (c_X5_isWithin l Z _ _ _ _ (0) (9) (by decide) (by decide)) cw_RX5_120 wd_4_23 rfl rfl (Nat.le_of_ble_eq_true rfl) rfl rfl (Nat.le_of_ble_eq_true rfl) (Nat.le_of_ble_eq_true rfl) dX5_isDigit_4 (fun b4 x4 hp4 => ?_)
  obtain ⟨rfl, rfl⟩ := hp4
  exact E dX5_isDigit_7 (⟨rfl, rfl⟩)
def rm_X5_isSheet : Room := ({ frames := 1, cells := 0, slots := 0, locals := 22 })
set_option maxRecDepth 20000 in
theorem c_X5_isSheet (l : Launch) (Z : EC) (x : St) (v : Int32) : MIz l Z (wC Z) yX5_isSheet cX5_isSheet 1 rm_X5_isSheet [.int v] x (fun b x1 => b = decide (hB v) ∧ x = x1) := by
  refine MIz_of (own := RX5) (L0 := [some (.int v)]) (by decide) rfl (Nat.le_of_ble_eq_true rfl) ⟨rfl, trivial⟩ ?_
  intro Γ C E
  refine J_iload_n C dX5_isSheet_0 rfl rfl ?_
  refine J_iconst C (v := nI 0) dX5_isSheet_1 (by decide) ?_
  refine J_iconst C (v := nI 3) dX5_isSheet_2 (by decide) ?_
  refine J_callSz C (As := [.int v, .int (nI 0), .int (nI 3)]) (c_X5_isWithin l Z _ _ _ _ (0) (3) (by decide) (by decide)) cw_RX5_120 wd_4_23 rfl rfl (Nat.le_of_ble_eq_true rfl) rfl rfl (Nat.le_of_ble_eq_true rfl) (Nat.le_of_ble_eq_true rfl) dX5_isSheet_3 (fun b3 x3 hp3 => ?_)
  obtain ⟨rfl, rfl⟩ := hp3
  exact E dX5_isSheet_6 (⟨rfl, rfl⟩)
def rm_X5_isLane : Room := ({ frames := 1, cells := 0, slots := 0, locals := 22 })
set_option maxRecDepth 20000 in
theorem c_X5_isLane (l : Launch) (Z : EC) (x : St) (v : Int32) : MIz l Z (wC Z) yX5_isLane cX5_isLane 1 rm_X5_isLane [.int v] x (fun b x1 => b = decide (lB v) ∧ x = x1) := by
  refine MIz_of (own := RX5) (L0 := [some (.int v)]) (by decide) rfl (Nat.le_of_ble_eq_true rfl) ⟨rfl, trivial⟩ ?_
  intro Γ C E
  refine J_iload_n C dX5_isLane_0 rfl rfl ?_
  refine J_iconst C (v := nI 0) dX5_isLane_1 (by decide) ?_
  refine J_iconst C (v := nI 2) dX5_isLane_2 (by decide) ?_
  refine J_callSz C (As := [.int v, .int (nI 0), .int (nI 2)]) (c_X5_isWithin l Z _ _ _ _ (0) (2) (by decide) (by decide)) cw_RX5_120 wd_4_23 rfl rfl (Nat.le_of_ble_eq_true rfl) rfl rfl (Nat.le_of_ble_eq_true rfl) (Nat.le_of_ble_eq_true rfl) dX5_isLane_3 (fun b3 x3 hp3 => ?_)
  obtain ⟨rfl, rfl⟩ := hp3
  exact E dX5_isLane_6 (⟨rfl, rfl⟩)
def rm_X5_isToldOfYears : Room := ({ frames := 1, cells := 0, slots := 0, locals := 22 })
set_option maxRecDepth 20000 in
theorem c_X5_isToldOfYears (l : Launch) (Z : EC) (x : St) (v : Int32) : MIz l Z (wC Z) yX5_isToldOfYears cX5_isToldOfYears 1 rm_X5_isToldOfYears [.int v] x (fun b x1 => b = decide (yB v) ∧ x = x1) := by
  refine MIz_of (own := RX5) (L0 := [some (.int v)]) (by decide) rfl (Nat.le_of_ble_eq_true rfl) ⟨rfl, trivial⟩ ?_
  intro Γ C E
  refine J_iload_n C dX5_isToldOfYears_0 rfl rfl ?_
  refine J_iconst C (v := nI 0) dX5_isToldOfYears_1 (by decide) ?_
  refine J_iconst C (v := nI 3) dX5_isToldOfYears_2 (by decide) ?_
  refine J_callSz C (As := [.int v, .int (nI 0), .int (nI 3)]) (c_X5_isWithin l Z _ _ _ _ (0) (3) (by decide) (by decide)) cw_RX5_120 wd_4_23 rfl rfl (Nat.le_of_ble_eq_true rfl) rfl rfl (Nat.le_of_ble_eq_true rfl) (Nat.le_of_ble_eq_true rfl) dX5_isToldOfYears_3 (fun b3 x3 hp3 => ?_)
  obtain ⟨rfl, rfl⟩ := hp3
  refine J_if_ne_d C (tgt := 31) dX5_isToldOfYears_6 (by decide) (fun c6 => ?_) (fun c6 => ?_)
  · skip
    refine J_iconst C (v := nI 1) dX5_isToldOfYears_31 (by decide) ?_
    refine J_goto (tgt := 36) C dX5_isToldOfYears_32 (by decide) ?_
    exact E (b := true) dX5_isToldOfYears_36 (⟨(decide_eq_true (Or.inl c6)).symm, rfl⟩)
  · skip
    refine J_iload_n C dX5_isToldOfYears_9 rfl rfl ?_
    refine J_bipush C (v := nI 10) dX5_isToldOfYears_10 (by decide) ?_
    refine J_bipush C (v := nI 15) dX5_isToldOfYears_12 (by decide) ?_
    refine J_callSz C (As := [.int v, .int (nI 10), .int (nI 15)]) (c_X5_isWithin l Z _ _ _ _ (10) (15) (by decide) (by decide)) cw_RX5_120 wd_4_23 rfl rfl (Nat.le_of_ble_eq_true rfl) rfl rfl (Nat.le_of_ble_eq_true rfl) (Nat.le_of_ble_eq_true rfl) dX5_isToldOfYears_14 (fun b14 x14 hp14 => ?_)
    obtain ⟨rfl, rfl⟩ := hp14
    refine J_if_ne_d C (tgt := 31) dX5_isToldOfYears_17 (by decide) (fun c17 => ?_) (fun c17 => ?_)
    · skip
      refine J_iconst C (v := nI 1) dX5_isToldOfYears_31 (by decide) ?_
      refine J_goto (tgt := 36) C dX5_isToldOfYears_32 (by decide) ?_
      exact E (b := true) dX5_isToldOfYears_36 (⟨(decide_eq_true (Or.inr (Or.inl c17))).symm, rfl⟩)
    · skip
      refine J_iload_n C dX5_isToldOfYears_20 rfl rfl ?_
      refine J_bipush C (v := nI 20) dX5_isToldOfYears_21 (by decide) ?_
      refine J_bipush C (v := nI 29) dX5_isToldOfYears_23 (by decide) ?_
      refine J_callSz C (As := [.int v, .int (nI 20), .int (nI 29)]) (c_X5_isWithin l Z _ _ _ _ (20) (29) (by decide) (by decide)) cw_RX5_120 wd_4_23 rfl rfl (Nat.le_of_ble_eq_true rfl) rfl rfl (Nat.le_of_ble_eq_true rfl) (Nat.le_of_ble_eq_true rfl) dX5_isToldOfYears_25 (fun b25 x25 hp25 => ?_)
      obtain ⟨rfl, rfl⟩ := hp25
      refine J_if_eq_d C (tgt := 35) dX5_isToldOfYears_28 (by decide) (fun c28 => ?_) (fun c28 => ?_)
      · skip
        refine J_iconst C (v := nI 0) dX5_isToldOfYears_35 (by decide) ?_
        exact E (b := false) dX5_isToldOfYears_36 (⟨(decide_eq_false (by unfold yB; omega)).symm, rfl⟩)
      · skip
        refine J_iconst C (v := nI 1) dX5_isToldOfYears_31 (by decide) ?_
        refine J_goto (tgt := 36) C dX5_isToldOfYears_32 (by decide) ?_
        exact E (b := true) dX5_isToldOfYears_36 (⟨(decide_eq_true (Or.inr (Or.inr c28))).symm, rfl⟩)
def rm_X5_isPool : Room := ({ frames := 1, cells := 0, slots := 0, locals := 22 })
set_option maxRecDepth 20000 in
theorem c_X5_isPool (l : Launch) (Z : EC) (x : St) (a : SA) (hs : CS x a) (ok : SOK a) (q : Int32) : MIz l Z (wC Z) yX5_isPool cX5_isPool 2 rm_X5_isPool [.ref (Z.2.1 0), .int q] x (fun b x1 => b = decide (pB a q) ∧ x = x1) := by
  obtain ⟨ok0, ok1, ok2, ok3, ok4, ok5, ok6, ok7⟩ := id ok
  refine MIz_of (own := RX5) (L0 := [some (.ref (Z.2.1 0)), some (.int q)]) (by decide) rfl (Nat.le_of_ble_eq_true rfl) ⟨rfl, rfl, trivial⟩ ?_
  intro Γ C E
  refine J_iload_n C dX5_isPool_0 rfl rfl ?_
  refine J_iconst C (v := nI 0) dX5_isPool_1 (by decide) ?_
  refine J_aload_n C dX5_isPool_2 rfl rfl ?_
  refine G5_shore C wd_2_7 dX5_isPool_3 ?_
  refine G4n_pools hs.1 hs.2.2.2 C wd_11_6 dX5_isPool_6 ?_
  refine J_iconst C (v := nI 1) dX5_isPool_9 (by decide) ?_
  refine J_isub C (v := nI (a.1 3) - nI 1) dX5_isPool_10 (rfl) ?_
  refine J_callSz C (As := [.int q, .int (nI 0), .int (nI (a.1 3) - nI 1)]) (c_X5_isWithin l Z _ _ _ _ (0) ((a.1 3 : Int) - 1) (by decide) (subI1 (by omega))) cw_RX5_120 wd_4_23 rfl rfl (Nat.le_of_ble_eq_true rfl) rfl rfl (Nat.le_of_ble_eq_true rfl) (Nat.le_of_ble_eq_true rfl) dX5_isPool_11 (fun b11 x11 hp11 => ?_)
  obtain ⟨rfl, rfl⟩ := hp11
  exact E dX5_isPool_14 (⟨by rw [decide_eq_decide]; unfold pB; omega, rfl⟩)
def rm_X5_isMember : Room := ({ frames := 1, cells := 0, slots := 0, locals := 22 })
set_option maxRecDepth 20000 in
theorem c_X5_isMember (l : Launch) (Z : EC) (x : St) (a : SA) (hs : CS x a) (ok : SOK a) (q : Int32) : MIz l Z (wC Z) yX5_isMember cX5_isMember 2 rm_X5_isMember [.ref (Z.2.1 0), .int q] x (fun b x1 => b = decide (mB a q) ∧ x = x1) := by
  obtain ⟨ok0, ok1, ok2, ok3, ok4, ok5, ok6, ok7⟩ := id ok
  refine MIz_of (own := RX5) (L0 := [some (.ref (Z.2.1 0)), some (.int q)]) (by decide) rfl (Nat.le_of_ble_eq_true rfl) ⟨rfl, rfl, trivial⟩ ?_
  intro Γ C E
  refine J_iload_n C dX5_isMember_0 rfl rfl ?_
  refine J_iconst C (v := nI 0) dX5_isMember_1 (by decide) ?_
  refine J_aload_n C dX5_isMember_2 rfl rfl ?_
  refine G5_shore C wd_2_7 dX5_isMember_3 ?_
  refine G4n_members hs.1 hs.2.2.2 C wd_4_18 dX5_isMember_6 ?_
  refine J_iconst C (v := nI 1) dX5_isMember_9 (by decide) ?_
  refine J_isub C (v := nI (a.1 4) - nI 1) dX5_isMember_10 (rfl) ?_
  refine J_callSz C (As := [.int q, .int (nI 0), .int (nI (a.1 4) - nI 1)]) (c_X5_isWithin l Z _ _ _ _ (0) ((a.1 4 : Int) - 1) (by decide) (subI1 (by omega))) cw_RX5_120 wd_4_23 rfl rfl (Nat.le_of_ble_eq_true rfl) rfl rfl (Nat.le_of_ble_eq_true rfl) (Nat.le_of_ble_eq_true rfl) dX5_isMember_11 (fun b11 x11 hp11 => ?_)
  obtain ⟨rfl, rfl⟩ := hp11
  exact E dX5_isMember_14 (⟨by rw [decide_eq_decide]; unfold mB; omega, rfl⟩)
def rm_X5_hasShore : Room := ({ frames := 0, cells := 0, slots := 0, locals := 0 })
set_option maxRecDepth 20000 in
theorem c_X5_hasShore (l : Launch) (Z : EC) (x : St) (a : SA) (hs : CS x a) (ok : SOK a)  : MIz l Z (wC Z) yX5_hasShore cX5_hasShore 1 rm_X5_hasShore [.ref (Z.2.1 0)] x (fun b x1 => b = decide (0 < a.1 3) ∧ x = x1) := by
  obtain ⟨ok0, ok1, ok2, ok3, ok4, ok5, ok6, ok7⟩ := id ok
  refine MIz_of (own := RX5) (L0 := [some (.ref (Z.2.1 0))]) (by decide) rfl (Nat.le_of_ble_eq_true rfl) ⟨rfl, trivial⟩ ?_
  intro Γ C E
  refine J_aload_n C dX5_hasShore_0 rfl rfl ?_
  refine G5_shore C wd_2_7 dX5_hasShore_1 ?_
  refine G4n_pools hs.1 hs.2.2.2 C wd_11_6 dX5_hasShore_4 ?_
  refine J_if_le_n C (tgt := 14) dX5_hasShore_7 (by decide) (by omega) (fun c7 => ?_) (fun c7 => ?_)
  · skip
    refine J_iconst C (v := nI 0) dX5_hasShore_14 (by decide) ?_
    exact E (b := false) dX5_hasShore_15 (⟨(decide_eq_false (by omega)).symm, rfl⟩)
  · skip
    refine J_iconst C (v := nI 1) dX5_hasShore_10 (by decide) ?_
    refine J_goto (tgt := 15) C dX5_hasShore_11 (by decide) ?_
    exact E (b := true) dX5_hasShore_15 (⟨(decide_eq_true c7).symm, rfl⟩)
def rm_X5_refusalUnless : Room := ({ frames := 1, cells := 0, slots := 0, locals := 20 })
set_option maxRecDepth 20000 in
theorem c_X5_refusalUnless (l : Launch) (Z : EC) (x : St) (a : SA) (hs : CS x a) (ok : SOK a) (b : Bool) : MIi l Z (wC Z) yX5_refusalUnless cX5_refusalUnless 2 rm_X5_refusalUnless [.ref (Z.2.1 0), .int (b2i b)] x (fun r x1 => (b = false ∧ r = (-2) ∧ x = x1) ∨ (b = true ∧ a.1 3 = 0 ∧ r = (-3) ∧ x = x1) ∨ (b = true ∧ ¬ a.1 3 = 0 ∧ r = nI 0 ∧ x = x1)) := by
  obtain ⟨ok0, ok1, ok2, ok3, ok4, ok5, ok6, ok7⟩ := id ok
  refine MIi_of (own := RX5) (L0 := [some (.ref (Z.2.1 0)), some (.int (b2i b))]) (by decide) rfl (Nat.le_of_ble_eq_true rfl) ⟨rfl, rfl, trivial⟩ ?_
  intro Γ C E
  refine J_iload_n C dX5_refusalUnless_0 rfl rfl ?_
  refine J_if_ne_b C (tgt := 7) dX5_refusalUnless_1 (by decide) (fun c1 => ?_) (fun c1 => ?_)
  · skip
    refine J_aload_n C dX5_refusalUnless_7 rfl rfl ?_
    refine J_callVz C (q0 := 0) (ci := 5) (N := 8) (As := []) (c_X5_hasShore l Z _ a hs ok) cw_RX5_254 wd_15_13 wd_15_14 rfl rfl rfl rfl (Nat.le_of_ble_eq_true rfl) rfl rfl (Nat.le_of_ble_eq_true rfl) (Nat.le_of_ble_eq_true rfl) dX5_refusalUnless_8 (fun b8 x8 hp8 => ?_)
    obtain ⟨rfl, rfl⟩ := hp8
    refine J_if_eq_d C (tgt := 18) dX5_refusalUnless_11 (by decide) (fun c11 => ?_) (fun c11 => ?_)
    · skip
      refine J_bipush C (v := (-3)) dX5_refusalUnless_18 (by decide) ?_
      exact E dX5_refusalUnless_20 (Or.inr (Or.inl ⟨c1, by omega, rfl, rfl⟩))
    · skip
      refine J_iconst C (v := nI 0) dX5_refusalUnless_14 (by decide) ?_
      refine J_goto (tgt := 20) C dX5_refusalUnless_15 (by decide) ?_
      exact E dX5_refusalUnless_20 (Or.inr (Or.inr ⟨c1, by omega, rfl, rfl⟩))
  · skip
    refine J_bipush C (v := (-2)) dX5_refusalUnless_4 (by decide) ?_
    exact E dX5_refusalUnless_6 (Or.inl ⟨c1, rfl, rfl⟩)
def rm_X5_ofPool : Room := ({ frames := 3, cells := 0, slots := 0, locals := 65 })
set_option maxRecDepth 20000 in
theorem c_X5_ofPool (l : Launch) (Z : EC) (x : St) (A : AB) (hA : AbsC x A) (hk : AOK A) (q w : Int32) : MIi l Z (wC Z) yX5_ofPool cX5_ofPool 3 rm_X5_ofPool [.ref (Z.2.1 0), .int q, .int w] x (fun r x1 => r = R_ofPool A q w ∧ AbsC x1 A) := by
  obtain ⟨⟨hcur, htr, hne, hr⟩, hH, hR, hT, hF⟩ := id hA
  obtain ⟨ok, hkH, hkR, hkr⟩ := id hk
  obtain ⟨ok0, ok1, ok2, ok3, ok4, ok5, ok6, ok7⟩ := id ok
  refine MIi_of (own := RX5) (L0 := [some (.ref (Z.2.1 0)), some (.int q), some (.int w)]) (by decide) rfl (Nat.le_of_ble_eq_true rfl) ⟨rfl, rfl, rfl, trivial⟩ ?_
  intro Γ C E
  refine J_aload_n C dX5_ofPool_0 rfl rfl ?_
  refine J_iload_n C dX5_ofPool_1 rfl rfl ?_
  refine J_callVz C (q0 := 0) (ci := 5) (N := 8) (As := [.int q]) (c_X5_isPool l Z _ A.1 hA.1 ok _) cw_RX5_89 wd_11_3 wd_11_4 rfl rfl rfl rfl (Nat.le_of_ble_eq_true rfl) rfl rfl (Nat.le_of_ble_eq_true rfl) (Nat.le_of_ble_eq_true rfl) dX5_ofPool_2 (fun b2 x2 hp2 => ?_)
  obtain ⟨rfl, rfl⟩ := hp2
  refine J_if_ne_d C (tgt := 10) dX5_ofPool_5 (by decide) (fun c5 => ?_) (fun c5 => ?_)
  · skip
    obtain ⟨qn, hqn, rfl⟩ := rng_nat c5
    have tnq := tn_nI (n := qn) (by omega)
    have gq := ok5 qn hqn
    refine J_iload_n C dX5_ofPool_10 rfl rfl ?_
    by_cases s11_0 : w = nI 0
    · skip
      refine J_tabIn C (tgt := 40) dX5_ofPool_11 (by rw [s11_0]; decide) (by rw [s11_0]; decide) (by rw [s11_0]; rfl) (by decide) ?_
      refine J_aload_n C dX5_ofPool_40 rfl rfl ?_
      refine G5_shore C wd_2_7 dX5_ofPool_41 ?_
      refine G4_heights hcur C wd_11_0 dX5_ofPool_44 ?_
      refine J_iload_n C dX5_ofPool_47 rfl rfl ?_
      refine L4n_heights hcur hr ok C (by omega) dX5_ofPool_48 ?_
      exact E dX5_ofPool_49 (⟨by rw [R_ofPool, if_pos c5, if_pos s11_0] <;> simp only [tnq], hA⟩)
    by_cases s11_1 : w = nI 1
    · skip
      refine J_tabIn C (tgt := 50) dX5_ofPool_11 (by rw [s11_1]; decide) (by rw [s11_1]; decide) (by rw [s11_1]; rfl) (by decide) ?_
      refine J_aload_n C dX5_ofPool_50 rfl rfl ?_
      refine G5_shore C wd_2_7 dX5_ofPool_51 ?_
      refine G4_depths hcur C wd_11_1 dX5_ofPool_54 ?_
      refine J_iload_n C dX5_ofPool_57 rfl rfl ?_
      refine L4n_depths hcur hr ok C (by omega) dX5_ofPool_58 ?_
      exact E dX5_ofPool_59 (⟨by rw [R_ofPool, if_pos c5, if_neg s11_0, if_pos s11_1] <;> simp only [tnq], hA⟩)
    by_cases s11_2 : w = nI 2
    · skip
      refine J_tabIn C (tgt := 60) dX5_ofPool_11 (by rw [s11_2]; decide) (by rw [s11_2]; decide) (by rw [s11_2]; rfl) (by decide) ?_
      refine J_aload_n C dX5_ofPool_60 rfl rfl ?_
      refine G5_shore C wd_2_7 dX5_ofPool_61 ?_
      refine J_iload_n C dX5_ofPool_64 rfl rfl ?_
      refine J_callVi C (N := 10) (As := [.int (nI qn)]) (c_X4_sittersOf l Z _ hcur hr ok _ (by omega)) cw_RX5_99 wd_11_8 wd_11_9 (at_shore hcur) rfl rfl rfl (Nat.le_of_ble_eq_true rfl) rfl rfl (Nat.le_of_ble_eq_true rfl) (Nat.le_of_ble_eq_true rfl) dX5_ofPool_65 (fun r65 x65 hp65 => ?_)
      obtain ⟨rfl, rfl⟩ := hp65
      exact E dX5_ofPool_68 (⟨by rw [R_ofPool, if_pos c5, if_neg s11_0, if_neg s11_1, if_pos s11_2] <;> simp only [tnq], hA⟩)
    by_cases s11_3 : w = nI 3
    · skip
      refine J_tabIn C (tgt := 69) dX5_ofPool_11 (by rw [s11_3]; decide) (by rw [s11_3]; decide) (by rw [s11_3]; rfl) (by decide) ?_
      refine J_aload_n C dX5_ofPool_69 rfl rfl ?_
      refine G5_shore C wd_2_7 dX5_ofPool_70 ?_
      refine J_iload_n C dX5_ofPool_73 rfl rfl ?_
      refine J_callVi C (N := 10) (As := [.int (nI qn)]) (c_X4_spanOf l Z _ hcur hr ok _ hqn) cw_RX5_102 wd_11_12 wd_11_13 (at_shore hcur) rfl rfl rfl (Nat.le_of_ble_eq_true rfl) rfl rfl (Nat.le_of_ble_eq_true rfl) (Nat.le_of_ble_eq_true rfl) dX5_ofPool_74 (fun r74 x74 hp74 => ?_)
      obtain ⟨rfl, rfl⟩ := hp74
      exact E dX5_ofPool_77 (⟨by rw [R_ofPool, if_pos c5, if_neg s11_0, if_neg s11_1, if_neg s11_2, if_pos s11_3] <;> simp only [tnq], hA⟩)
    refine J_tabOut C (tgt := 78) dX5_ofPool_11 (tab_out (lo := 0) (hi := 3) (fun z h1 h2 => by rcases (show z = 0 ∨ z = 1 ∨ z = 2 ∨ z = 3 by omega) with rfl | rfl | rfl | rfl <;> assumption)) (by decide) ?_
    refine J_bipush C (v := (-2)) dX5_ofPool_78 (by decide) ?_
    exact E dX5_ofPool_80 (⟨by rw [R_ofPool, if_pos c5, if_neg s11_0, if_neg s11_1, if_neg s11_2, if_neg s11_3] <;> simp only [tnq], hA⟩)
  · skip
    refine J_iconst C (v := (-1)) dX5_ofPool_8 (by decide) ?_
    exact E dX5_ofPool_9 (⟨by rw [R_ofPool, if_neg c5] <;> simp only [tnq], hA⟩)
def rm_X5_ofMember : Room := ({ frames := 2, cells := 0, slots := 0, locals := 43 })
set_option maxRecDepth 20000 in
theorem c_X5_ofMember (l : Launch) (Z : EC) (x : St) (A : AB) (hA : AbsC x A) (hk : AOK A) (m w : Int32) : MIi l Z (wC Z) yX5_ofMember cX5_ofMember 3 rm_X5_ofMember [.ref (Z.2.1 0), .int m, .int w] x (fun r x1 => r = R_ofMember A m w ∧ AbsC x1 A) := by
  obtain ⟨⟨hcur, htr, hne, hr⟩, hH, hR, hT, hF⟩ := id hA
  obtain ⟨ok, hkH, hkR, hkr⟩ := id hk
  obtain ⟨ok0, ok1, ok2, ok3, ok4, ok5, ok6, ok7⟩ := id ok
  refine MIi_of (own := RX5) (L0 := [some (.ref (Z.2.1 0)), some (.int m), some (.int w)]) (by decide) rfl (Nat.le_of_ble_eq_true rfl) ⟨rfl, rfl, rfl, trivial⟩ ?_
  intro Γ C E
  refine J_aload_n C dX5_ofMember_0 rfl rfl ?_
  refine J_iload_n C dX5_ofMember_1 rfl rfl ?_
  refine J_callVz C (q0 := 0) (ci := 5) (N := 8) (As := [.int m]) (c_X5_isMember l Z _ A.1 hA.1 ok _) cw_RX5_105 wd_13_2 wd_13_3 rfl rfl rfl rfl (Nat.le_of_ble_eq_true rfl) rfl rfl (Nat.le_of_ble_eq_true rfl) (Nat.le_of_ble_eq_true rfl) dX5_ofMember_2 (fun b2 x2 hp2 => ?_)
  obtain ⟨rfl, rfl⟩ := hp2
  refine J_if_ne_d C (tgt := 10) dX5_ofMember_5 (by decide) (fun c5 => ?_) (fun c5 => ?_)
  · skip
    obtain ⟨mn, hmn, rfl⟩ := rng_nat c5
    have tnm := tn_nI (n := mn) (by omega)
    have gm := ok6 mn hmn
    have hs1 := ok7 (by omega)
    refine J_iload_n C dX5_ofMember_10 rfl rfl ?_
    by_cases s11_0 : w = nI 0
    · skip
      refine J_tabIn C (tgt := 40) dX5_ofMember_11 (by rw [s11_0]; decide) (by rw [s11_0]; decide) (by rw [s11_0]; rfl) (by decide) ?_
      refine J_aload_n C dX5_ofMember_40 rfl rfl ?_
      refine G5_shore C wd_2_7 dX5_ofMember_41 ?_
      refine G4_kindOf hcur C wd_12_22 dX5_ofMember_44 ?_
      refine J_iload_n C dX5_ofMember_47 rfl rfl ?_
      refine L4n_kindOf hcur hr ok C (by omega) dX5_ofMember_48 ?_
      exact E dX5_ofMember_49 (⟨by rw [R_ofMember, if_pos c5, if_pos s11_0] <;> simp only [tnm], hA⟩)
    by_cases s11_1 : w = nI 1
    · skip
      refine J_tabIn C (tgt := 50) dX5_ofMember_11 (by rw [s11_1]; decide) (by rw [s11_1]; decide) (by rw [s11_1]; rfl) (by decide) ?_
      refine J_aload_n C dX5_ofMember_50 rfl rfl ?_
      refine G5_shore C wd_2_7 dX5_ofMember_51 ?_
      refine G4_seats hcur C wd_12_23 dX5_ofMember_54 ?_
      refine J_iload_n C dX5_ofMember_57 rfl rfl ?_
      refine L4n_seats hcur hr ok C (by omega) dX5_ofMember_58 ?_
      exact E dX5_ofMember_59 (⟨by rw [R_ofMember, if_pos c5, if_neg s11_0, if_pos s11_1] <;> simp only [tnm], hA⟩)
    by_cases s11_2 : w = nI 2
    · skip
      refine J_tabIn C (tgt := 60) dX5_ofMember_11 (by rw [s11_2]; decide) (by rw [s11_2]; decide) (by rw [s11_2]; rfl) (by decide) ?_
      refine J_aload_n C dX5_ofMember_60 rfl rfl ?_
      refine G5_shore C wd_2_7 dX5_ofMember_61 ?_
      refine G4_views hcur C wd_13_0 dX5_ofMember_64 ?_
      refine J_iload_n C dX5_ofMember_67 rfl rfl ?_
      refine L4n_views hcur hr ok C (by omega) dX5_ofMember_68 ?_
      exact E dX5_ofMember_69 (⟨by rw [R_ofMember, if_pos c5, if_neg s11_0, if_neg s11_1, if_pos s11_2] <;> simp only [tnm], hA⟩)
    by_cases s11_3 : w = nI 3
    · skip
      refine J_tabIn C (tgt := 70) dX5_ofMember_11 (by rw [s11_3]; decide) (by rw [s11_3]; decide) (by rw [s11_3]; rfl) (by decide) ?_
      refine J_aload_n C dX5_ofMember_70 rfl rfl ?_
      refine G5_shore C wd_2_7 dX5_ofMember_71 ?_
      refine J_aload_n C dX5_ofMember_74 rfl rfl ?_
      refine G5_shore C wd_2_7 dX5_ofMember_75 ?_
      refine G4_kindOf hcur C wd_12_22 dX5_ofMember_78 ?_
      refine J_iload_n C dX5_ofMember_81 rfl rfl ?_
      refine L4n_kindOf hcur hr ok C (by omega) dX5_ofMember_82 ?_
      refine J_callVi C (N := 10) (As := [.int (nI (A.1.2 2 mn))]) (c_X4_stepsOf l Z _ hcur hr ok _ (by omega) (by omega)) cw_RX5_117 wd_13_6 wd_13_7 (at_shore hcur) rfl rfl rfl (Nat.le_of_ble_eq_true rfl) rfl rfl (Nat.le_of_ble_eq_true rfl) (Nat.le_of_ble_eq_true rfl) dX5_ofMember_83 (fun r83 x83 hp83 => ?_)
      obtain ⟨rfl, rfl⟩ := hp83
      exact E dX5_ofMember_86 (⟨by rw [R_ofMember, if_pos c5, if_neg s11_0, if_neg s11_1, if_neg s11_2, if_pos s11_3] <;> simp only [tnm], hA⟩)
    refine J_tabOut C (tgt := 87) dX5_ofMember_11 (tab_out (lo := 0) (hi := 3) (fun z h1 h2 => by rcases (show z = 0 ∨ z = 1 ∨ z = 2 ∨ z = 3 by omega) with rfl | rfl | rfl | rfl <;> assumption)) (by decide) ?_
    refine J_bipush C (v := (-2)) dX5_ofMember_87 (by decide) ?_
    exact E dX5_ofMember_89 (⟨by rw [R_ofMember, if_pos c5, if_neg s11_0, if_neg s11_1, if_neg s11_2, if_neg s11_3] <;> simp only [tnm], hA⟩)
  · skip
    refine J_iconst C (v := (-1)) dX5_ofMember_8 (by decide) ?_
    exact E dX5_ofMember_9 (⟨by rw [R_ofMember, if_neg c5] <;> simp only [tnm], hA⟩)
def rm_X5_raise : Room := ({ frames := 2, cells := 0, slots := 0, locals := 43 })
set_option maxRecDepth 20000 in
theorem c_X5_raise (l : Launch) (Z : EC) (x : St) (A : AB) (hA : AbsC x A) (hk : AOK A) (q v : Int32) : MIi l Z (wC Z) yX5_raise cX5_raise 4 rm_X5_raise [.ref (Z.2.1 0), .int q, .int v] x (fun r x1 => r = R_raise A q v ∧ AbsC x1 (N_raise A q v)) := by
  obtain ⟨⟨hcur, htr, hne, hr⟩, hH, hR, hT, hF⟩ := id hA
  obtain ⟨ok, hkH, hkR, hkr⟩ := id hk
  obtain ⟨ok0, ok1, ok2, ok3, ok4, ok5, ok6, ok7⟩ := id ok
  refine MIi_of (own := RX5) (L0 := [some (.ref (Z.2.1 0)), some (.int q), some (.int v), none]) (by decide) rfl (Nat.le_of_ble_eq_true rfl) ⟨rfl, rfl, rfl, trivial⟩ ?_
  intro Γ C E
  refine J_aload_n C dX5_raise_0 rfl rfl ?_
  refine J_iload_n C dX5_raise_1 rfl rfl ?_
  refine J_callVz C (q0 := 0) (ci := 5) (N := 8) (As := [.int q]) (c_X5_isPool l Z _ A.1 hA.1 ok _) cw_RX5_89 wd_11_3 wd_11_4 rfl rfl rfl rfl (Nat.le_of_ble_eq_true rfl) rfl rfl (Nat.le_of_ble_eq_true rfl) (Nat.le_of_ble_eq_true rfl) dX5_raise_2 (fun b2 x2 hp2 => ?_)
  obtain ⟨rfl, rfl⟩ := hp2
  refine J_if_ne_d C (tgt := 10) dX5_raise_5 (by decide) (fun c5 => ?_) (fun c5 => ?_)
  · skip
    obtain ⟨qn, hqn, rfl⟩ := rng_nat c5
    have tnq := tn_nI (n := qn) (by omega)
    have gq := ok5 qn hqn
    refine J_iload_n C dX5_raise_10 rfl rfl ?_
    refine J_iconst C (v := nI 1) dX5_raise_11 (by decide) ?_
    refine J_bipush C (v := nI 9) dX5_raise_12 (by decide) ?_
    refine J_callSz C (As := [.int v, .int (nI 1), .int (nI 9)]) (c_X5_isWithin l Z _ _ _ _ (1) (9) (by decide) (by decide)) cw_RX5_120 wd_4_23 rfl rfl (Nat.le_of_ble_eq_true rfl) rfl rfl (Nat.le_of_ble_eq_true rfl) (Nat.le_of_ble_eq_true rfl) dX5_raise_14 (fun b14 x14 hp14 => ?_)
    obtain ⟨rfl, rfl⟩ := hp14
    refine J_if_ne_d C (tgt := 23) dX5_raise_17 (by decide) (fun c17 => ?_) (fun c17 => ?_)
    · skip
      obtain ⟨vn, v0, v9, rfl⟩ := rng_nat2 (A := 1) (B := 9) (c17)
      have tnv := tn_nI (n := vn) (by omega)
      refine J_aload_n C dX5_raise_23 rfl rfl ?_
      refine G5_shore C wd_2_7 dX5_raise_24 ?_
      refine G4_heights hcur C wd_11_0 dX5_raise_27 ?_
      refine J_iload_n C dX5_raise_30 rfl rfl ?_
      refine L4n_heights hcur hr ok C (by omega) dX5_raise_31 ?_
      refine J_istore_n C (L' := [some (.ref (Z.2.1 0)), some (.int (nI qn)), some (.int (nI vn)), some (.int (nI (A.1.2 0 qn)))]) dX5_raise_32 rfl (by decide) rfl rfl ?_
      refine J_aload_n C dX5_raise_33 rfl rfl ?_
      refine G5_shore C wd_2_7 dX5_raise_34 ?_
      refine G4_heights hcur C wd_11_0 dX5_raise_37 ?_
      refine J_iload_n C dX5_raise_40 rfl rfl ?_
      refine J_iload_n C dX5_raise_41 rfl rfl ?_
      refine S_heights hcur C (by omega) dX5_raise_42 ?_
      refine J_iload_n C dX5_raise_43 rfl rfl ?_
      exact E dX5_raise_44 (⟨by rw [R_raise, if_pos c5, if_pos c17] <;> simp only [tnq], by rw [N_raise, if_pos c5, if_pos c17]; first | exact hA | (simp only [tnq, tnv]; exact absC_A (t := 0) (by omega) hA)⟩)
    · skip
      refine J_bipush C (v := (-2)) dX5_raise_20 (by decide) ?_
      exact E dX5_raise_22 (⟨by rw [R_raise, if_pos c5, if_neg c17] <;> simp only [tnq], by rw [N_raise, if_pos c5, if_neg c17]; first | exact hA | (simp only [tnq, tnv]; exact absC_A (t := 0) (by omega) hA)⟩)
  · skip
    refine J_iconst C (v := (-1)) dX5_raise_8 (by decide) ?_
    exact E dX5_raise_9 (⟨by rw [R_raise, if_neg c5] <;> simp only [tnq], by rw [N_raise, if_neg c5]; first | exact hA | (simp only [tnq, tnv]; exact absC_A (t := 0) (by omega) hA)⟩)
def rm_X5_sway : Room := ({ frames := 2, cells := 0, slots := 0, locals := 43 })
set_option maxRecDepth 20000 in
theorem c_X5_sway (l : Launch) (Z : EC) (x : St) (A : AB) (hA : AbsC x A) (hk : AOK A) (m v : Int32) : MIi l Z (wC Z) yX5_sway cX5_sway 4 rm_X5_sway [.ref (Z.2.1 0), .int m, .int v] x (fun r x1 => r = R_sway A m v ∧ AbsC x1 (N_sway A m v)) := by
  obtain ⟨⟨hcur, htr, hne, hr⟩, hH, hR, hT, hF⟩ := id hA
  obtain ⟨ok, hkH, hkR, hkr⟩ := id hk
  obtain ⟨ok0, ok1, ok2, ok3, ok4, ok5, ok6, ok7⟩ := id ok
  refine MIi_of (own := RX5) (L0 := [some (.ref (Z.2.1 0)), some (.int m), some (.int v), none]) (by decide) rfl (Nat.le_of_ble_eq_true rfl) ⟨rfl, rfl, rfl, trivial⟩ ?_
  intro Γ C E
  refine J_aload_n C dX5_sway_0 rfl rfl ?_
  refine J_iload_n C dX5_sway_1 rfl rfl ?_
  refine J_callVz C (q0 := 0) (ci := 5) (N := 8) (As := [.int m]) (c_X5_isMember l Z _ A.1 hA.1 ok _) cw_RX5_105 wd_13_2 wd_13_3 rfl rfl rfl rfl (Nat.le_of_ble_eq_true rfl) rfl rfl (Nat.le_of_ble_eq_true rfl) (Nat.le_of_ble_eq_true rfl) dX5_sway_2 (fun b2 x2 hp2 => ?_)
  obtain ⟨rfl, rfl⟩ := hp2
  refine J_if_ne_d C (tgt := 10) dX5_sway_5 (by decide) (fun c5 => ?_) (fun c5 => ?_)
  · skip
    obtain ⟨mn, hmn, rfl⟩ := rng_nat c5
    have tnm := tn_nI (n := mn) (by omega)
    have gm := ok6 mn hmn
    have hs1 := ok7 (by omega)
    refine J_iload_n C dX5_sway_10 rfl rfl ?_
    refine J_callSz C (As := [.int v]) (c_X5_isDigit l Z _ _) cw_RX5_124 wd_14_10 rfl rfl (Nat.le_of_ble_eq_true rfl) rfl rfl (Nat.le_of_ble_eq_true rfl) (Nat.le_of_ble_eq_true rfl) dX5_sway_11 (fun b11 x11 hp11 => ?_)
    obtain ⟨rfl, rfl⟩ := hp11
    refine J_if_ne_d C (tgt := 20) dX5_sway_14 (by decide) (fun c14 => ?_) (fun c14 => ?_)
    · skip
      obtain ⟨vn, v0, v9, rfl⟩ := rng_nat2 (A := 0) (B := 9) (c14)
      have tnv := tn_nI (n := vn) (by omega)
      refine J_aload_n C dX5_sway_20 rfl rfl ?_
      refine G5_shore C wd_2_7 dX5_sway_21 ?_
      refine G4_views hcur C wd_13_0 dX5_sway_24 ?_
      refine J_iload_n C dX5_sway_27 rfl rfl ?_
      refine L4n_views hcur hr ok C (by omega) dX5_sway_28 ?_
      refine J_istore_n C (L' := [some (.ref (Z.2.1 0)), some (.int (nI mn)), some (.int (nI vn)), some (.int (nI (A.1.2 4 mn)))]) dX5_sway_29 rfl (by decide) rfl rfl ?_
      refine J_aload_n C dX5_sway_30 rfl rfl ?_
      refine G5_shore C wd_2_7 dX5_sway_31 ?_
      refine G4_views hcur C wd_13_0 dX5_sway_34 ?_
      refine J_iload_n C dX5_sway_37 rfl rfl ?_
      refine J_iload_n C dX5_sway_38 rfl rfl ?_
      refine S_views hcur C (by omega) dX5_sway_39 ?_
      refine J_iload_n C dX5_sway_40 rfl rfl ?_
      exact E dX5_sway_41 (⟨by rw [R_sway, if_pos c5, if_pos c14] <;> simp only [tnm], by rw [N_sway, if_pos c5, if_pos c14]; first | exact hA | (simp only [tnm, tnv]; exact absC_A (t := 4) (by omega) hA)⟩)
    · skip
      refine J_bipush C (v := (-2)) dX5_sway_17 (by decide) ?_
      exact E dX5_sway_19 (⟨by rw [R_sway, if_pos c5, if_neg c14] <;> simp only [tnm], by rw [N_sway, if_pos c5, if_neg c14]; first | exact hA | (simp only [tnm, tnv]; exact absC_A (t := 4) (by omega) hA)⟩)
  · skip
    refine J_iconst C (v := (-1)) dX5_sway_8 (by decide) ?_
    exact E dX5_sway_9 (⟨by rw [R_sway, if_neg c5] <;> simp only [tnm], by rw [N_sway, if_neg c5]; first | exact hA | (simp only [tnm, tnv]; exact absC_A (t := 4) (by omega) hA)⟩)
def rm_X5_seat : Room := ({ frames := 2, cells := 0, slots := 0, locals := 43 })
set_option maxRecDepth 20000 in
theorem c_X5_seat (l : Launch) (Z : EC) (x : St) (A : AB) (hA : AbsC x A) (hk : AOK A) (m q : Int32) : MIi l Z (wC Z) yX5_seat cX5_seat 4 rm_X5_seat [.ref (Z.2.1 0), .int m, .int q] x (fun r x1 => r = R_seat A m q ∧ AbsC x1 (N_seat A m q)) := by
  obtain ⟨⟨hcur, htr, hne, hr⟩, hH, hR, hT, hF⟩ := id hA
  obtain ⟨ok, hkH, hkR, hkr⟩ := id hk
  obtain ⟨ok0, ok1, ok2, ok3, ok4, ok5, ok6, ok7⟩ := id ok
  refine MIi_of (own := RX5) (L0 := [some (.ref (Z.2.1 0)), some (.int m), some (.int q), none]) (by decide) rfl (Nat.le_of_ble_eq_true rfl) ⟨rfl, rfl, rfl, trivial⟩ ?_
  intro Γ C E
  refine J_aload_n C dX5_seat_0 rfl rfl ?_
  refine J_iload_n C dX5_seat_1 rfl rfl ?_
  refine J_callVz C (q0 := 0) (ci := 5) (N := 8) (As := [.int m]) (c_X5_isMember l Z _ A.1 hA.1 ok _) cw_RX5_105 wd_13_2 wd_13_3 rfl rfl rfl rfl (Nat.le_of_ble_eq_true rfl) rfl rfl (Nat.le_of_ble_eq_true rfl) (Nat.le_of_ble_eq_true rfl) dX5_seat_2 (fun b2 x2 hp2 => ?_)
  obtain ⟨rfl, rfl⟩ := hp2
  refine J_if_eq_d C (tgt := 16) dX5_seat_5 (by decide) (fun c5 => ?_) (fun c5 => ?_)
  · skip
    refine J_iconst C (v := (-1)) dX5_seat_16 (by decide) ?_
    exact E dX5_seat_17 (⟨by rw [R_seat, if_neg c5] <;> simp only [tnm], by rw [N_seat, if_neg c5]; first | exact hA | (simp only [tnm, tnq]; exact absC_A (t := 3) (by omega) hA)⟩)
  · skip
    obtain ⟨mn, hmn, rfl⟩ := rng_nat c5
    have tnm := tn_nI (n := mn) (by omega)
    have gm := ok6 mn hmn
    have hs1 := ok7 (by omega)
    refine J_aload_n C dX5_seat_8 rfl rfl ?_
    refine J_iload_n C dX5_seat_9 rfl rfl ?_
    refine J_callVz C (q0 := 0) (ci := 5) (N := 8) (As := [.int q]) (c_X5_isPool l Z _ A.1 hA.1 ok _) cw_RX5_89 wd_11_3 wd_11_4 rfl rfl rfl rfl (Nat.le_of_ble_eq_true rfl) rfl rfl (Nat.le_of_ble_eq_true rfl) (Nat.le_of_ble_eq_true rfl) dX5_seat_10 (fun b10 x10 hp10 => ?_)
    obtain ⟨rfl, rfl⟩ := hp10
    refine J_if_ne_d C (tgt := 18) dX5_seat_13 (by decide) (fun c13 => ?_) (fun c13 => ?_)
    · skip
      obtain ⟨qn, hqn, rfl⟩ := rng_nat c13
      have tnq := tn_nI (n := qn) (by omega)
      have gq := ok5 qn hqn
      refine J_aload_n C dX5_seat_18 rfl rfl ?_
      refine G5_shore C wd_2_7 dX5_seat_19 ?_
      refine G4_seats hcur C wd_12_23 dX5_seat_22 ?_
      refine J_iload_n C dX5_seat_25 rfl rfl ?_
      refine L4n_seats hcur hr ok C (by omega) dX5_seat_26 ?_
      refine J_istore_n C (L' := [some (.ref (Z.2.1 0)), some (.int (nI mn)), some (.int (nI qn)), some (.int (nI (A.1.2 3 mn)))]) dX5_seat_27 rfl (by decide) rfl rfl ?_
      refine J_aload_n C dX5_seat_28 rfl rfl ?_
      refine G5_shore C wd_2_7 dX5_seat_29 ?_
      refine G4_seats hcur C wd_12_23 dX5_seat_32 ?_
      refine J_iload_n C dX5_seat_35 rfl rfl ?_
      refine J_iload_n C dX5_seat_36 rfl rfl ?_
      refine S_seats hcur C (by omega) dX5_seat_37 ?_
      refine J_iload_n C dX5_seat_38 rfl rfl ?_
      exact E dX5_seat_39 (⟨by rw [R_seat, if_pos c5, if_pos c13] <;> simp only [tnm], by rw [N_seat, if_pos c5, if_pos c13]; first | exact hA | (simp only [tnm, tnq]; exact absC_A (t := 3) (by omega) hA)⟩)
    · skip
      refine J_iconst C (v := (-1)) dX5_seat_16 (by decide) ?_
      exact E dX5_seat_17 (⟨by rw [R_seat, if_pos c5, if_neg c13] <;> simp only [tnm], by rw [N_seat, if_pos c5, if_neg c13]; first | exact hA | (simp only [tnm, tnq]; exact absC_A (t := 3) (by omega) hA)⟩)
def rm_X5_flow : Room := ({ frames := 2, cells := 0, slots := 0, locals := 41 })
set_option maxRecDepth 20000 in
theorem c_X5_flow (l : Launch) (Z : EC) (x : St) (A : AB) (hA : AbsC x A) (hk : AOK A) (v : Int32) : MIi l Z (wC Z) yX5_flow cX5_flow 4 rm_X5_flow [.ref (Z.2.1 0), .int v] x (fun r x1 => r = R_flow A v ∧ AbsC x1 (N_flow A v)) := by
  obtain ⟨⟨hcur, htr, hne, hr⟩, hH, hR, hT, hF⟩ := id hA
  obtain ⟨ok, hkH, hkR, hkr⟩ := id hk
  obtain ⟨ok0, ok1, ok2, ok3, ok4, ok5, ok6, ok7⟩ := id ok
  refine MIi_of (own := RX5) (L0 := [some (.ref (Z.2.1 0)), some (.int v), none, none]) (by decide) rfl (Nat.le_of_ble_eq_true rfl) ⟨rfl, rfl, trivial⟩ ?_
  intro Γ C E
  refine J_aload_n C dX5_flow_0 rfl rfl ?_
  refine J_iload_n C dX5_flow_1 rfl rfl ?_
  refine J_iconst C (v := nI 1) dX5_flow_2 (by decide) ?_
  refine J_iconst C (v := nI 3) dX5_flow_3 (by decide) ?_
  refine J_callSz C (As := [.int v, .int (nI 1), .int (nI 3)]) (c_X5_isWithin l Z _ _ _ _ (1) (3) (by decide) (by decide)) cw_RX5_120 wd_4_23 rfl rfl (Nat.le_of_ble_eq_true rfl) rfl rfl (Nat.le_of_ble_eq_true rfl) (Nat.le_of_ble_eq_true rfl) dX5_flow_4 (fun b4 x4 hp4 => ?_)
  obtain ⟨rfl, rfl⟩ := hp4
  refine J_callVi C (q0 := 0) (ci := 5) (N := 8) (As := [.int (b2i (decide ((1 : Int) ≤ v.toInt ∧ v.toInt ≤ (3 : Int))))]) (c_X5_refusalUnless l Z _ A.1 hA.1 ok (decide ((1 : Int) ≤ v.toInt ∧ v.toInt ≤ (3 : Int)))) cw_RX5_127 wd_15_9 wd_15_10 rfl rfl rfl rfl (Nat.le_of_ble_eq_true rfl) rfl rfl (Nat.le_of_ble_eq_true rfl) (Nat.le_of_ble_eq_true rfl) dX5_flow_7 (fun r7 x7 hp7 => ?_)
  rcases hp7 with ⟨h7, rfl, rfl⟩ | ⟨h7, k7, rfl, rfl⟩ | ⟨h7, k7, rfl, rfl⟩
  · skip
    refine J_istore_n C (L' := [some (.ref (Z.2.1 0)), some (.int v), some (.int (-2)), none]) dX5_flow_10 rfl (by decide) rfl rfl ?_
    refine J_iload_n C dX5_flow_11 rfl rfl ?_
    refine J_if_eq C (tgt := 17) dX5_flow_12 (by decide) (fun c12 => absurd c12 (by decide)) (fun c12 => ?_)
    refine J_iload_n C dX5_flow_15 rfl rfl ?_
    exact E dX5_flow_16 (⟨by rw [R_flow, if_neg (of_decide_eq_false h7)] <;> simp only [tnv], by rw [N_flow, if_neg (of_decide_eq_false h7)]; first | exact hA | (simp only [tnv]; exact absC_I (i := 0) (by omega) hA)⟩)
  · skip
    refine J_istore_n C (L' := [some (.ref (Z.2.1 0)), some (.int v), some (.int (-3)), none]) dX5_flow_10 rfl (by decide) rfl rfl ?_
    refine J_iload_n C dX5_flow_11 rfl rfl ?_
    refine J_if_eq C (tgt := 17) dX5_flow_12 (by decide) (fun c12 => absurd c12 (by decide)) (fun c12 => ?_)
    refine J_iload_n C dX5_flow_15 rfl rfl ?_
    exact E dX5_flow_16 (⟨by rw [R_flow, if_pos (of_decide_eq_true h7), if_pos k7] <;> simp only [tnv], by rw [N_flow, if_pos (of_decide_eq_true h7), if_pos k7]; first | exact hA | (simp only [tnv]; exact absC_I (i := 0) (by omega) hA)⟩)
  · skip
    obtain ⟨vn, v0, v9, rfl⟩ := rng_nat2 (A := 1) (B := 3) (of_decide_eq_true h7)
    have tnv := tn_nI (n := vn) (by omega)
    refine J_istore_n C (L' := [some (.ref (Z.2.1 0)), some (.int (nI vn)), some (.int (nI 0)), none]) dX5_flow_10 rfl (by decide) rfl rfl ?_
    refine J_iload_n C dX5_flow_11 rfl rfl ?_
    refine J_if_eq C (tgt := 17) dX5_flow_12 (by decide) (fun c12 => ?_) (fun c12 => absurd (by decide) c12)
    refine J_aload_n C dX5_flow_17 rfl rfl ?_
    refine G5_shore C wd_2_7 dX5_flow_18 ?_
    refine G4n_stream hcur hr C wd_15_7 dX5_flow_21 ?_
    refine J_istore_n C (L' := [some (.ref (Z.2.1 0)), some (.int (nI vn)), some (.int (nI 0)), some (.int (nI (A.1.1 0)))]) dX5_flow_24 rfl (by decide) rfl rfl ?_
    refine J_aload_n C dX5_flow_25 rfl rfl ?_
    refine G5_shore C wd_2_7 dX5_flow_26 ?_
    refine J_iload_n C dX5_flow_29 rfl rfl ?_
    refine P4_stream hcur C wd_15_7 dX5_flow_30 ?_
    refine J_iload_n C dX5_flow_33 rfl rfl ?_
    exact E dX5_flow_34 (⟨by rw [R_flow, if_pos (of_decide_eq_true h7), if_neg k7] <;> simp only [tnv], by rw [N_flow, if_pos (of_decide_eq_true h7), if_neg k7]; first | exact hA | (simp only [tnv]; exact absC_I (i := 0) (by omega) hA)⟩)
def rm_X5_calm : Room := ({ frames := 2, cells := 0, slots := 0, locals := 42 })
set_option maxRecDepth 20000 in
theorem c_X5_calm (l : Launch) (Z : EC) (x : St) (A : AB) (hA : AbsC x A) (hk : AOK A) (v : Int32) : MIi l Z (wC Z) yX5_calm cX5_calm 4 rm_X5_calm [.ref (Z.2.1 0), .int v] x (fun r x1 => r = R_calm A v ∧ AbsC x1 (N_calm A v)) := by
  obtain ⟨⟨hcur, htr, hne, hr⟩, hH, hR, hT, hF⟩ := id hA
  obtain ⟨ok, hkH, hkR, hkr⟩ := id hk
  obtain ⟨ok0, ok1, ok2, ok3, ok4, ok5, ok6, ok7⟩ := id ok
  refine MIi_of (own := RX5) (L0 := [some (.ref (Z.2.1 0)), some (.int v), none, none]) (by decide) rfl (Nat.le_of_ble_eq_true rfl) ⟨rfl, rfl, trivial⟩ ?_
  intro Γ C E
  refine J_aload_n C dX5_calm_0 rfl rfl ?_
  refine J_iload_n C dX5_calm_1 rfl rfl ?_
  refine J_callSz C (As := [.int v]) (c_X5_isDigit l Z _ _) cw_RX5_124 wd_14_10 rfl rfl (Nat.le_of_ble_eq_true rfl) rfl rfl (Nat.le_of_ble_eq_true rfl) (Nat.le_of_ble_eq_true rfl) dX5_calm_2 (fun b2 x2 hp2 => ?_)
  obtain ⟨rfl, rfl⟩ := hp2
  refine J_callVi C (q0 := 0) (ci := 5) (N := 8) (As := [.int (b2i (decide (dB v)))]) (c_X5_refusalUnless l Z _ A.1 hA.1 ok (decide (dB v))) cw_RX5_127 wd_15_9 wd_15_10 rfl rfl rfl rfl (Nat.le_of_ble_eq_true rfl) rfl rfl (Nat.le_of_ble_eq_true rfl) (Nat.le_of_ble_eq_true rfl) dX5_calm_5 (fun r5 x5 hp5 => ?_)
  rcases hp5 with ⟨h5, rfl, rfl⟩ | ⟨h5, k5, rfl, rfl⟩ | ⟨h5, k5, rfl, rfl⟩
  · skip
    refine J_istore_n C (L' := [some (.ref (Z.2.1 0)), some (.int v), some (.int (-2)), none]) dX5_calm_8 rfl (by decide) rfl rfl ?_
    refine J_iload_n C dX5_calm_9 rfl rfl ?_
    refine J_if_eq C (tgt := 15) dX5_calm_10 (by decide) (fun c10 => absurd c10 (by decide)) (fun c10 => ?_)
    refine J_iload_n C dX5_calm_13 rfl rfl ?_
    exact E dX5_calm_14 (⟨by rw [R_calm, if_neg (of_decide_eq_false h5)] <;> simp only [tnv], by rw [N_calm, if_neg (of_decide_eq_false h5)]; first | exact hA | (simp only [tnv]; exact absC_I (i := 1) (by omega) hA)⟩)
  · skip
    refine J_istore_n C (L' := [some (.ref (Z.2.1 0)), some (.int v), some (.int (-3)), none]) dX5_calm_8 rfl (by decide) rfl rfl ?_
    refine J_iload_n C dX5_calm_9 rfl rfl ?_
    refine J_if_eq C (tgt := 15) dX5_calm_10 (by decide) (fun c10 => absurd c10 (by decide)) (fun c10 => ?_)
    refine J_iload_n C dX5_calm_13 rfl rfl ?_
    exact E dX5_calm_14 (⟨by rw [R_calm, if_pos (of_decide_eq_true h5), if_pos k5] <;> simp only [tnv], by rw [N_calm, if_pos (of_decide_eq_true h5), if_pos k5]; first | exact hA | (simp only [tnv]; exact absC_I (i := 1) (by omega) hA)⟩)
  · skip
    obtain ⟨vn, v0, v9, rfl⟩ := rng_nat2 (A := 0) (B := 9) (of_decide_eq_true h5)
    have tnv := tn_nI (n := vn) (by omega)
    refine J_istore_n C (L' := [some (.ref (Z.2.1 0)), some (.int (nI vn)), some (.int (nI 0)), none]) dX5_calm_8 rfl (by decide) rfl rfl ?_
    refine J_iload_n C dX5_calm_9 rfl rfl ?_
    refine J_if_eq C (tgt := 15) dX5_calm_10 (by decide) (fun c10 => ?_) (fun c10 => absurd (by decide) c10)
    refine J_aload_n C dX5_calm_15 rfl rfl ?_
    refine G5_shore C wd_2_7 dX5_calm_16 ?_
    refine G4n_mild hcur hr C wd_16_0 dX5_calm_19 ?_
    refine J_istore_n C (L' := [some (.ref (Z.2.1 0)), some (.int (nI vn)), some (.int (nI 0)), some (.int (nI (A.1.1 1)))]) dX5_calm_22 rfl (by decide) rfl rfl ?_
    refine J_aload_n C dX5_calm_23 rfl rfl ?_
    refine G5_shore C wd_2_7 dX5_calm_24 ?_
    refine J_iload_n C dX5_calm_27 rfl rfl ?_
    refine P4_mild hcur C wd_16_0 dX5_calm_28 ?_
    refine J_iload_n C dX5_calm_31 rfl rfl ?_
    exact E dX5_calm_32 (⟨by rw [R_calm, if_pos (of_decide_eq_true h5), if_neg k5] <;> simp only [tnv], by rw [N_calm, if_pos (of_decide_eq_true h5), if_neg k5]; first | exact hA | (simp only [tnv]; exact absC_I (i := 1) (by omega) hA)⟩)
def rm_X5_leap : Room := ({ frames := 2, cells := 0, slots := 0, locals := 42 })
set_option maxRecDepth 20000 in
theorem c_X5_leap (l : Launch) (Z : EC) (x : St) (A : AB) (hA : AbsC x A) (hk : AOK A) (v : Int32) : MIi l Z (wC Z) yX5_leap cX5_leap 4 rm_X5_leap [.ref (Z.2.1 0), .int v] x (fun r x1 => r = R_leap A v ∧ AbsC x1 (N_leap A v)) := by
  obtain ⟨⟨hcur, htr, hne, hr⟩, hH, hR, hT, hF⟩ := id hA
  obtain ⟨ok, hkH, hkR, hkr⟩ := id hk
  obtain ⟨ok0, ok1, ok2, ok3, ok4, ok5, ok6, ok7⟩ := id ok
  refine MIi_of (own := RX5) (L0 := [some (.ref (Z.2.1 0)), some (.int v), none, none]) (by decide) rfl (Nat.le_of_ble_eq_true rfl) ⟨rfl, rfl, trivial⟩ ?_
  intro Γ C E
  refine J_aload_n C dX5_leap_0 rfl rfl ?_
  refine J_iload_n C dX5_leap_1 rfl rfl ?_
  refine J_callSz C (As := [.int v]) (c_X5_isDigit l Z _ _) cw_RX5_124 wd_14_10 rfl rfl (Nat.le_of_ble_eq_true rfl) rfl rfl (Nat.le_of_ble_eq_true rfl) (Nat.le_of_ble_eq_true rfl) dX5_leap_2 (fun b2 x2 hp2 => ?_)
  obtain ⟨rfl, rfl⟩ := hp2
  refine J_callVi C (q0 := 0) (ci := 5) (N := 8) (As := [.int (b2i (decide (dB v)))]) (c_X5_refusalUnless l Z _ A.1 hA.1 ok (decide (dB v))) cw_RX5_127 wd_15_9 wd_15_10 rfl rfl rfl rfl (Nat.le_of_ble_eq_true rfl) rfl rfl (Nat.le_of_ble_eq_true rfl) (Nat.le_of_ble_eq_true rfl) dX5_leap_5 (fun r5 x5 hp5 => ?_)
  rcases hp5 with ⟨h5, rfl, rfl⟩ | ⟨h5, k5, rfl, rfl⟩ | ⟨h5, k5, rfl, rfl⟩
  · skip
    refine J_istore_n C (L' := [some (.ref (Z.2.1 0)), some (.int v), some (.int (-2)), none]) dX5_leap_8 rfl (by decide) rfl rfl ?_
    refine J_iload_n C dX5_leap_9 rfl rfl ?_
    refine J_if_eq C (tgt := 15) dX5_leap_10 (by decide) (fun c10 => absurd c10 (by decide)) (fun c10 => ?_)
    refine J_iload_n C dX5_leap_13 rfl rfl ?_
    exact E dX5_leap_14 (⟨by rw [R_leap, if_neg (of_decide_eq_false h5)] <;> simp only [tnv], by rw [N_leap, if_neg (of_decide_eq_false h5)]; first | exact hA | (simp only [tnv]; exact absC_I (i := 2) (by omega) hA)⟩)
  · skip
    refine J_istore_n C (L' := [some (.ref (Z.2.1 0)), some (.int v), some (.int (-3)), none]) dX5_leap_8 rfl (by decide) rfl rfl ?_
    refine J_iload_n C dX5_leap_9 rfl rfl ?_
    refine J_if_eq C (tgt := 15) dX5_leap_10 (by decide) (fun c10 => absurd c10 (by decide)) (fun c10 => ?_)
    refine J_iload_n C dX5_leap_13 rfl rfl ?_
    exact E dX5_leap_14 (⟨by rw [R_leap, if_pos (of_decide_eq_true h5), if_pos k5] <;> simp only [tnv], by rw [N_leap, if_pos (of_decide_eq_true h5), if_pos k5]; first | exact hA | (simp only [tnv]; exact absC_I (i := 2) (by omega) hA)⟩)
  · skip
    obtain ⟨vn, v0, v9, rfl⟩ := rng_nat2 (A := 0) (B := 9) (of_decide_eq_true h5)
    have tnv := tn_nI (n := vn) (by omega)
    refine J_istore_n C (L' := [some (.ref (Z.2.1 0)), some (.int (nI vn)), some (.int (nI 0)), none]) dX5_leap_8 rfl (by decide) rfl rfl ?_
    refine J_iload_n C dX5_leap_9 rfl rfl ?_
    refine J_if_eq C (tgt := 15) dX5_leap_10 (by decide) (fun c10 => ?_) (fun c10 => absurd (by decide) c10)
    refine J_aload_n C dX5_leap_15 rfl rfl ?_
    refine G5_shore C wd_2_7 dX5_leap_16 ?_
    refine G4n_reach hcur hr C wd_16_9 dX5_leap_19 ?_
    refine J_istore_n C (L' := [some (.ref (Z.2.1 0)), some (.int (nI vn)), some (.int (nI 0)), some (.int (nI (A.1.1 2)))]) dX5_leap_22 rfl (by decide) rfl rfl ?_
    refine J_aload_n C dX5_leap_23 rfl rfl ?_
    refine G5_shore C wd_2_7 dX5_leap_24 ?_
    refine J_iload_n C dX5_leap_27 rfl rfl ?_
    refine P4_reach hcur C wd_16_9 dX5_leap_28 ?_
    refine J_iload_n C dX5_leap_31 rfl rfl ?_
    exact E dX5_leap_32 (⟨by rw [R_leap, if_pos (of_decide_eq_true h5), if_neg k5] <;> simp only [tnv], by rw [N_leap, if_pos (of_decide_eq_true h5), if_neg k5]; first | exact hA | (simp only [tnv]; exact absC_I (i := 2) (by omega) hA)⟩)
def rm_X5_washed : Room := ({ frames := 2, cells := 0, slots := 0, locals := 45 })
set_option maxRecDepth 20000 in
theorem c_X5_washed (l : Launch) (Z : EC) (x : St) (A : AB) (hA : AbsC x A) (hk : AOK A) (h : Int32) : MIi l Z (wC Z) yX5_washed cX5_washed 3 rm_X5_washed [.ref (Z.2.1 0), .int h] x (fun r x1 => r = R_washed A h ∧ AbsC x1 A) := by
  obtain ⟨⟨hcur, htr, hne, hr⟩, hH, hR, hT, hF⟩ := id hA
  obtain ⟨ok, hkH, hkR, hkr⟩ := id hk
  obtain ⟨ok0, ok1, ok2, ok3, ok4, ok5, ok6, ok7⟩ := id ok
  refine MIi_of (own := RX5) (L0 := [some (.ref (Z.2.1 0)), some (.int h), none]) (by decide) rfl (Nat.le_of_ble_eq_true rfl) ⟨rfl, rfl, trivial⟩ ?_
  intro Γ C E
  refine J_aload_n C dX5_washed_0 rfl rfl ?_
  refine J_iload_n C dX5_washed_1 rfl rfl ?_
  refine J_callSz C (As := [.int h]) (c_X5_isDigit l Z _ _) cw_RX5_124 wd_14_10 rfl rfl (Nat.le_of_ble_eq_true rfl) rfl rfl (Nat.le_of_ble_eq_true rfl) (Nat.le_of_ble_eq_true rfl) dX5_washed_2 (fun b2 x2 hp2 => ?_)
  obtain ⟨rfl, rfl⟩ := hp2
  refine J_callVi C (q0 := 0) (ci := 5) (N := 8) (As := [.int (b2i (decide (dB h)))]) (c_X5_refusalUnless l Z _ A.1 hA.1 ok (decide (dB h))) cw_RX5_127 wd_15_9 wd_15_10 rfl rfl rfl rfl (Nat.le_of_ble_eq_true rfl) rfl rfl (Nat.le_of_ble_eq_true rfl) (Nat.le_of_ble_eq_true rfl) dX5_washed_5 (fun r5 x5 hp5 => ?_)
  rcases hp5 with ⟨h5, rfl, rfl⟩ | ⟨h5, k5, rfl, rfl⟩ | ⟨h5, k5, rfl, rfl⟩
  · skip
    refine J_istore_n C (L' := [some (.ref (Z.2.1 0)), some (.int h), some (.int (-2))]) dX5_washed_8 rfl (by decide) rfl rfl ?_
    refine J_iload_n C dX5_washed_9 rfl rfl ?_
    refine J_if_eq C (tgt := 17) dX5_washed_10 (by decide) (fun c10 => absurd c10 (by decide)) (fun c10 => ?_)
    refine J_iload_n C dX5_washed_13 rfl rfl ?_
    refine J_goto (tgt := 25) C dX5_washed_14 (by decide) ?_
    exact E dX5_washed_25 (⟨by rw [R_washed, if_neg (of_decide_eq_false h5)] <;> simp only [tnh], hA⟩)
  · skip
    refine J_istore_n C (L' := [some (.ref (Z.2.1 0)), some (.int h), some (.int (-3))]) dX5_washed_8 rfl (by decide) rfl rfl ?_
    refine J_iload_n C dX5_washed_9 rfl rfl ?_
    refine J_if_eq C (tgt := 17) dX5_washed_10 (by decide) (fun c10 => absurd c10 (by decide)) (fun c10 => ?_)
    refine J_iload_n C dX5_washed_13 rfl rfl ?_
    refine J_goto (tgt := 25) C dX5_washed_14 (by decide) ?_
    exact E dX5_washed_25 (⟨by rw [R_washed, if_pos (of_decide_eq_true h5), if_pos k5] <;> simp only [tnh], hA⟩)
  · skip
    obtain ⟨hn, h0, h9, rfl⟩ := rng_nat2 (A := 0) (B := 9) (of_decide_eq_true h5)
    have tnh := tn_nI (n := hn) (by omega)
    refine J_istore_n C (L' := [some (.ref (Z.2.1 0)), some (.int (nI hn)), some (.int (nI 0))]) dX5_washed_8 rfl (by decide) rfl rfl ?_
    refine J_iload_n C dX5_washed_9 rfl rfl ?_
    refine J_if_eq C (tgt := 17) dX5_washed_10 (by decide) (fun c10 => ?_) (fun c10 => absurd (by decide) c10)
    refine J_aload_n C dX5_washed_17 rfl rfl ?_
    refine G5_shore C wd_2_7 dX5_washed_18 ?_
    refine J_iload_n C dX5_washed_21 rfl rfl ?_
    refine J_callVi C (N := 10) (As := [.int (nI hn)]) (c_X4_washedBy l Z _ hcur hr ok _ (by omega)) cw_RX5_140 wd_16_19 wd_16_20 (at_shore hcur) rfl rfl rfl (Nat.le_of_ble_eq_true rfl) rfl rfl (Nat.le_of_ble_eq_true rfl) (Nat.le_of_ble_eq_true rfl) dX5_washed_22 (fun r22 x22 hp22 => ?_)
    obtain ⟨rfl, rfl⟩ := hp22
    exact E dX5_washed_25 (⟨by rw [R_washed, if_pos (of_decide_eq_true h5), if_neg k5] <;> simp only [tnh], hA⟩)
def rm_X5_carried : Room := ({ frames := 4, cells := 0, slots := 0, locals := 93 })
set_option maxRecDepth 20000 in
theorem c_X5_carried (l : Launch) (Z : EC) (x : St) (A : AB) (hA : AbsC x A) (hk : AOK A) (m h : Int32) : MIi l Z (wC Z) yX5_carried cX5_carried 3 rm_X5_carried [.ref (Z.2.1 0), .int m, .int h] x (fun r x1 => r = R_carried A m h ∧ AbsC x1 A) := by
  obtain ⟨⟨hcur, htr, hne, hr⟩, hH, hR, hT, hF⟩ := id hA
  obtain ⟨ok, hkH, hkR, hkr⟩ := id hk
  obtain ⟨ok0, ok1, ok2, ok3, ok4, ok5, ok6, ok7⟩ := id ok
  refine MIi_of (own := RX5) (L0 := [some (.ref (Z.2.1 0)), some (.int m), some (.int h)]) (by decide) rfl (Nat.le_of_ble_eq_true rfl) ⟨rfl, rfl, rfl, trivial⟩ ?_
  intro Γ C E
  refine J_aload_n C dX5_carried_0 rfl rfl ?_
  refine J_iload_n C dX5_carried_1 rfl rfl ?_
  refine J_callVz C (q0 := 0) (ci := 5) (N := 8) (As := [.int m]) (c_X5_isMember l Z _ A.1 hA.1 ok _) cw_RX5_105 wd_13_2 wd_13_3 rfl rfl rfl rfl (Nat.le_of_ble_eq_true rfl) rfl rfl (Nat.le_of_ble_eq_true rfl) (Nat.le_of_ble_eq_true rfl) dX5_carried_2 (fun b2 x2 hp2 => ?_)
  obtain ⟨rfl, rfl⟩ := hp2
  refine J_if_ne_d C (tgt := 10) dX5_carried_5 (by decide) (fun c5 => ?_) (fun c5 => ?_)
  · skip
    obtain ⟨mn, hmn, rfl⟩ := rng_nat c5
    have tnm := tn_nI (n := mn) (by omega)
    have gm := ok6 mn hmn
    have hs1 := ok7 (by omega)
    refine J_iload_n C dX5_carried_10 rfl rfl ?_
    refine J_callSz C (As := [.int h]) (c_X5_isDigit l Z _ _) cw_RX5_124 wd_14_10 rfl rfl (Nat.le_of_ble_eq_true rfl) rfl rfl (Nat.le_of_ble_eq_true rfl) (Nat.le_of_ble_eq_true rfl) dX5_carried_11 (fun b11 x11 hp11 => ?_)
    obtain ⟨rfl, rfl⟩ := hp11
    refine J_if_eq_d C (tgt := 29) dX5_carried_14 (by decide) (fun c14 => ?_) (fun c14 => ?_)
    · skip
      refine J_bipush C (v := (-2)) dX5_carried_29 (by decide) ?_
      exact E dX5_carried_31 (⟨by rw [R_carried, if_pos c5, if_neg c14] <;> simp only [tnm, tnh], hA⟩)
    · skip
      obtain ⟨hn, h0, h9, rfl⟩ := rng_nat2 (A := 0) (B := 9) (c14)
      have tnh := tn_nI (n := hn) (by omega)
      refine J_aload_n C dX5_carried_17 rfl rfl ?_
      refine G5_shore C wd_2_7 dX5_carried_18 ?_
      refine J_iload_n C dX5_carried_21 rfl rfl ?_
      refine J_iload_n C dX5_carried_22 rfl rfl ?_
      refine J_callVi C (N := 10) (As := [.int (nI mn), .int (nI hn)]) (c_X4_seatBehind l Z _ hcur hr ok _ _ hmn (by omega)) cw_RX5_143 wd_17_15 wd_17_16 (at_shore hcur) rfl rfl rfl (Nat.le_of_ble_eq_true rfl) rfl rfl (Nat.le_of_ble_eq_true rfl) (Nat.le_of_ble_eq_true rfl) dX5_carried_23 (fun r23 x23 hp23 => ?_)
      obtain ⟨rfl, rfl⟩ := hp23
      refine J_goto (tgt := 31) C dX5_carried_26 (by decide) ?_
      exact E dX5_carried_31 (⟨by rw [R_carried, if_pos c5, if_pos c14] <;> simp only [tnm, tnh], hA⟩)
  · skip
    refine J_iconst C (v := (-1)) dX5_carried_8 (by decide) ?_
    exact E dX5_carried_9 (⟨by rw [R_carried, if_neg c5] <;> simp only [tnm, tnh], hA⟩)
def rm_X5_ayes : Room := ({ frames := 2, cells := 0, slots := 0, locals := 44 })
set_option maxRecDepth 20000 in
theorem c_X5_ayes (l : Launch) (Z : EC) (x : St) (A : AB) (hA : AbsC x A) (hk : AOK A) (v : Int32) : MIi l Z (wC Z) yX5_ayes cX5_ayes 3 rm_X5_ayes [.ref (Z.2.1 0), .int v] x (fun r x1 => r = R_ayes A v ∧ AbsC x1 A) := by
  obtain ⟨⟨hcur, htr, hne, hr⟩, hH, hR, hT, hF⟩ := id hA
  obtain ⟨ok, hkH, hkR, hkr⟩ := id hk
  obtain ⟨ok0, ok1, ok2, ok3, ok4, ok5, ok6, ok7⟩ := id ok
  refine MIi_of (own := RX5) (L0 := [some (.ref (Z.2.1 0)), some (.int v), none]) (by decide) rfl (Nat.le_of_ble_eq_true rfl) ⟨rfl, rfl, trivial⟩ ?_
  intro Γ C E
  refine J_aload_n C dX5_ayes_0 rfl rfl ?_
  refine J_iload_n C dX5_ayes_1 rfl rfl ?_
  refine J_callSz C (As := [.int v]) (c_X5_isDigit l Z _ _) cw_RX5_124 wd_14_10 rfl rfl (Nat.le_of_ble_eq_true rfl) rfl rfl (Nat.le_of_ble_eq_true rfl) (Nat.le_of_ble_eq_true rfl) dX5_ayes_2 (fun b2 x2 hp2 => ?_)
  obtain ⟨rfl, rfl⟩ := hp2
  refine J_callVi C (q0 := 0) (ci := 5) (N := 8) (As := [.int (b2i (decide (dB v)))]) (c_X5_refusalUnless l Z _ A.1 hA.1 ok (decide (dB v))) cw_RX5_127 wd_15_9 wd_15_10 rfl rfl rfl rfl (Nat.le_of_ble_eq_true rfl) rfl rfl (Nat.le_of_ble_eq_true rfl) (Nat.le_of_ble_eq_true rfl) dX5_ayes_5 (fun r5 x5 hp5 => ?_)
  rcases hp5 with ⟨h5, rfl, rfl⟩ | ⟨h5, k5, rfl, rfl⟩ | ⟨h5, k5, rfl, rfl⟩
  · skip
    refine J_istore_n C (L' := [some (.ref (Z.2.1 0)), some (.int v), some (.int (-2))]) dX5_ayes_8 rfl (by decide) rfl rfl ?_
    refine J_iload_n C dX5_ayes_9 rfl rfl ?_
    refine J_if_eq C (tgt := 17) dX5_ayes_10 (by decide) (fun c10 => absurd c10 (by decide)) (fun c10 => ?_)
    refine J_iload_n C dX5_ayes_13 rfl rfl ?_
    refine J_goto (tgt := 25) C dX5_ayes_14 (by decide) ?_
    exact E dX5_ayes_25 (⟨by rw [R_ayes, if_neg (of_decide_eq_false h5)] <;> simp only [tnv], hA⟩)
  · skip
    refine J_istore_n C (L' := [some (.ref (Z.2.1 0)), some (.int v), some (.int (-3))]) dX5_ayes_8 rfl (by decide) rfl rfl ?_
    refine J_iload_n C dX5_ayes_9 rfl rfl ?_
    refine J_if_eq C (tgt := 17) dX5_ayes_10 (by decide) (fun c10 => absurd c10 (by decide)) (fun c10 => ?_)
    refine J_iload_n C dX5_ayes_13 rfl rfl ?_
    refine J_goto (tgt := 25) C dX5_ayes_14 (by decide) ?_
    exact E dX5_ayes_25 (⟨by rw [R_ayes, if_pos (of_decide_eq_true h5), if_pos k5] <;> simp only [tnv], hA⟩)
  · skip
    obtain ⟨vn, v0, v9, rfl⟩ := rng_nat2 (A := 0) (B := 9) (of_decide_eq_true h5)
    have tnv := tn_nI (n := vn) (by omega)
    refine J_istore_n C (L' := [some (.ref (Z.2.1 0)), some (.int (nI vn)), some (.int (nI 0))]) dX5_ayes_8 rfl (by decide) rfl rfl ?_
    refine J_iload_n C dX5_ayes_9 rfl rfl ?_
    refine J_if_eq C (tgt := 17) dX5_ayes_10 (by decide) (fun c10 => ?_) (fun c10 => absurd (by decide) c10)
    refine J_aload_n C dX5_ayes_17 rfl rfl ?_
    refine G5_shore C wd_2_7 dX5_ayes_18 ?_
    refine J_iload_n C dX5_ayes_21 rfl rfl ?_
    refine J_callVi C (N := 10) (As := [.int (nI vn)]) (c_X4_friendsOf l Z _ hcur hr ok _ (by omega)) cw_RX5_150 wd_19_11 wd_19_12 (at_shore hcur) rfl rfl rfl (Nat.le_of_ble_eq_true rfl) rfl rfl (Nat.le_of_ble_eq_true rfl) (Nat.le_of_ble_eq_true rfl) dX5_ayes_22 (fun r22 x22 hp22 => ?_)
    obtain ⟨rfl, rfl⟩ := hp22
    exact E dX5_ayes_25 (⟨by rw [R_ayes, if_pos (of_decide_eq_true h5), if_neg k5] <;> simp only [tnv], hA⟩)
def rm_X5_passes : Room := ({ frames := 2, cells := 0, slots := 0, locals := 47 })
set_option maxRecDepth 20000 in
theorem c_X5_passes (l : Launch) (Z : EC) (x : St) (A : AB) (hA : AbsC x A) (hk : AOK A) (v : Int32) : MIi l Z (wC Z) yX5_passes cX5_passes 3 rm_X5_passes [.ref (Z.2.1 0), .int v] x (fun r x1 => r = R_passes A v ∧ AbsC x1 A) := by
  obtain ⟨⟨hcur, htr, hne, hr⟩, hH, hR, hT, hF⟩ := id hA
  obtain ⟨ok, hkH, hkR, hkr⟩ := id hk
  obtain ⟨ok0, ok1, ok2, ok3, ok4, ok5, ok6, ok7⟩ := id ok
  refine MIi_of (own := RX5) (L0 := [some (.ref (Z.2.1 0)), some (.int v), none]) (by decide) rfl (Nat.le_of_ble_eq_true rfl) ⟨rfl, rfl, trivial⟩ ?_
  intro Γ C E
  refine J_aload_n C dX5_passes_0 rfl rfl ?_
  refine J_iload_n C dX5_passes_1 rfl rfl ?_
  refine J_callSz C (As := [.int v]) (c_X5_isDigit l Z _ _) cw_RX5_124 wd_14_10 rfl rfl (Nat.le_of_ble_eq_true rfl) rfl rfl (Nat.le_of_ble_eq_true rfl) (Nat.le_of_ble_eq_true rfl) dX5_passes_2 (fun b2 x2 hp2 => ?_)
  obtain ⟨rfl, rfl⟩ := hp2
  refine J_callVi C (q0 := 0) (ci := 5) (N := 8) (As := [.int (b2i (decide (dB v)))]) (c_X5_refusalUnless l Z _ A.1 hA.1 ok (decide (dB v))) cw_RX5_127 wd_15_9 wd_15_10 rfl rfl rfl rfl (Nat.le_of_ble_eq_true rfl) rfl rfl (Nat.le_of_ble_eq_true rfl) (Nat.le_of_ble_eq_true rfl) dX5_passes_5 (fun r5 x5 hp5 => ?_)
  rcases hp5 with ⟨h5, rfl, rfl⟩ | ⟨h5, k5, rfl, rfl⟩ | ⟨h5, k5, rfl, rfl⟩
  · skip
    refine J_istore_n C (L' := [some (.ref (Z.2.1 0)), some (.int v), some (.int (-2))]) dX5_passes_8 rfl (by decide) rfl rfl ?_
    refine J_iload_n C dX5_passes_9 rfl rfl ?_
    refine J_if_eq C (tgt := 17) dX5_passes_10 (by decide) (fun c10 => absurd c10 (by decide)) (fun c10 => ?_)
    refine J_iload_n C dX5_passes_13 rfl rfl ?_
    refine J_goto (tgt := 32) C dX5_passes_14 (by decide) ?_
    exact E dX5_passes_32 (⟨by rw [R_passes, if_neg (of_decide_eq_false h5)] <;> simp only [tnv], hA⟩)
  · skip
    refine J_istore_n C (L' := [some (.ref (Z.2.1 0)), some (.int v), some (.int (-3))]) dX5_passes_8 rfl (by decide) rfl rfl ?_
    refine J_iload_n C dX5_passes_9 rfl rfl ?_
    refine J_if_eq C (tgt := 17) dX5_passes_10 (by decide) (fun c10 => absurd c10 (by decide)) (fun c10 => ?_)
    refine J_iload_n C dX5_passes_13 rfl rfl ?_
    refine J_goto (tgt := 32) C dX5_passes_14 (by decide) ?_
    exact E dX5_passes_32 (⟨by rw [R_passes, if_pos (of_decide_eq_true h5), if_pos k5] <;> simp only [tnv], hA⟩)
  · skip
    obtain ⟨vn, v0, v9, rfl⟩ := rng_nat2 (A := 0) (B := 9) (of_decide_eq_true h5)
    have tnv := tn_nI (n := vn) (by omega)
    refine J_istore_n C (L' := [some (.ref (Z.2.1 0)), some (.int (nI vn)), some (.int (nI 0))]) dX5_passes_8 rfl (by decide) rfl rfl ?_
    refine J_iload_n C dX5_passes_9 rfl rfl ?_
    refine J_if_eq C (tgt := 17) dX5_passes_10 (by decide) (fun c10 => ?_) (fun c10 => absurd (by decide) c10)
    refine J_aload_n C dX5_passes_17 rfl rfl ?_
    refine G5_shore C wd_2_7 dX5_passes_18 ?_
    refine J_aload_n C dX5_passes_21 rfl rfl ?_
    refine G5_shore C wd_2_7 dX5_passes_22 ?_
    refine J_iload_n C dX5_passes_25 rfl rfl ?_
    refine J_callVi C (N := 10) (As := [.int (nI vn)]) (c_X4_friendsOf l Z _ hcur hr ok _ (by omega)) cw_RX5_150 wd_19_11 wd_19_12 (at_shore hcur) rfl rfl rfl (Nat.le_of_ble_eq_true rfl) rfl rfl (Nat.le_of_ble_eq_true rfl) (Nat.le_of_ble_eq_true rfl) dX5_passes_26 (fun r26 x26 hp26 => ?_)
    obtain ⟨rfl, rfl⟩ := hp26
    refine J_callVi C (N := 10) (As := [.int (nI (fri A.1 vn))]) (c_X4_poolsWon l Z _ hcur hr ok _ (fri64 ok vn)) cw_RX5_153 wd_20_7 wd_20_8 (at_shore hcur) rfl rfl rfl (Nat.le_of_ble_eq_true rfl) rfl rfl (Nat.le_of_ble_eq_true rfl) (Nat.le_of_ble_eq_true rfl) dX5_passes_29 (fun r29 x29 hp29 => ?_)
    obtain ⟨rfl, rfl⟩ := hp29
    exact E dX5_passes_32 (⟨by rw [R_passes, if_pos (of_decide_eq_true h5), if_neg k5] <;> simp only [tnv], hA⟩)
def rm_X5_law : Room := ({ frames := 3, cells := 0, slots := 0, locals := 68 })
set_option maxRecDepth 20000 in
theorem c_X5_law (l : Launch) (Z : EC) (x : St) (A : AB) (hA : AbsC x A) (hk : AOK A) (v : Int32) : MIi l Z (wC Z) yX5_law cX5_law 3 rm_X5_law [.ref (Z.2.1 0), .int v] x (fun r x1 => r = R_law A v ∧ AbsC x1 A) := by
  obtain ⟨⟨hcur, htr, hne, hr⟩, hH, hR, hT, hF⟩ := id hA
  obtain ⟨ok, hkH, hkR, hkr⟩ := id hk
  obtain ⟨ok0, ok1, ok2, ok3, ok4, ok5, ok6, ok7⟩ := id ok
  refine MIi_of (own := RX5) (L0 := [some (.ref (Z.2.1 0)), some (.int v), none]) (by decide) rfl (Nat.le_of_ble_eq_true rfl) ⟨rfl, rfl, trivial⟩ ?_
  intro Γ C E
  refine J_aload_n C dX5_law_0 rfl rfl ?_
  refine J_iload_n C dX5_law_1 rfl rfl ?_
  refine J_callSz C (As := [.int v]) (c_X5_isDigit l Z _ _) cw_RX5_124 wd_14_10 rfl rfl (Nat.le_of_ble_eq_true rfl) rfl rfl (Nat.le_of_ble_eq_true rfl) (Nat.le_of_ble_eq_true rfl) dX5_law_2 (fun b2 x2 hp2 => ?_)
  obtain ⟨rfl, rfl⟩ := hp2
  refine J_callVi C (q0 := 0) (ci := 5) (N := 8) (As := [.int (b2i (decide (dB v)))]) (c_X5_refusalUnless l Z _ A.1 hA.1 ok (decide (dB v))) cw_RX5_127 wd_15_9 wd_15_10 rfl rfl rfl rfl (Nat.le_of_ble_eq_true rfl) rfl rfl (Nat.le_of_ble_eq_true rfl) (Nat.le_of_ble_eq_true rfl) dX5_law_5 (fun r5 x5 hp5 => ?_)
  rcases hp5 with ⟨h5, rfl, rfl⟩ | ⟨h5, k5, rfl, rfl⟩ | ⟨h5, k5, rfl, rfl⟩
  · skip
    refine J_istore_n C (L' := [some (.ref (Z.2.1 0)), some (.int v), some (.int (-2))]) dX5_law_8 rfl (by decide) rfl rfl ?_
    refine J_iload_n C dX5_law_9 rfl rfl ?_
    refine J_if_eq C (tgt := 17) dX5_law_10 (by decide) (fun c10 => absurd c10 (by decide)) (fun c10 => ?_)
    refine J_iload_n C dX5_law_13 rfl rfl ?_
    refine J_goto (tgt := 35) C dX5_law_14 (by decide) ?_
    exact E dX5_law_35 (⟨by rw [R_law, if_neg (of_decide_eq_false h5)] <;> simp only [tnv], hA⟩)
  · skip
    refine J_istore_n C (L' := [some (.ref (Z.2.1 0)), some (.int v), some (.int (-3))]) dX5_law_8 rfl (by decide) rfl rfl ?_
    refine J_iload_n C dX5_law_9 rfl rfl ?_
    refine J_if_eq C (tgt := 17) dX5_law_10 (by decide) (fun c10 => absurd c10 (by decide)) (fun c10 => ?_)
    refine J_iload_n C dX5_law_13 rfl rfl ?_
    refine J_goto (tgt := 35) C dX5_law_14 (by decide) ?_
    exact E dX5_law_35 (⟨by rw [R_law, if_pos (of_decide_eq_true h5), if_pos k5] <;> simp only [tnv], hA⟩)
  · skip
    obtain ⟨vn, v0, v9, rfl⟩ := rng_nat2 (A := 0) (B := 9) (of_decide_eq_true h5)
    have tnv := tn_nI (n := vn) (by omega)
    refine J_istore_n C (L' := [some (.ref (Z.2.1 0)), some (.int (nI vn)), some (.int (nI 0))]) dX5_law_8 rfl (by decide) rfl rfl ?_
    refine J_iload_n C dX5_law_9 rfl rfl ?_
    refine J_if_eq C (tgt := 17) dX5_law_10 (by decide) (fun c10 => ?_) (fun c10 => absurd (by decide) c10)
    refine J_aload_n C dX5_law_17 rfl rfl ?_
    refine G5_shore C wd_2_7 dX5_law_18 ?_
    refine J_aload_n C dX5_law_21 rfl rfl ?_
    refine G5_shore C wd_2_7 dX5_law_22 ?_
    refine J_iload_n C dX5_law_25 rfl rfl ?_
    refine J_callVi C (N := 10) (As := [.int (nI vn)]) (c_X4_friendsOf l Z _ hcur hr ok _ (by omega)) cw_RX5_150 wd_19_11 wd_19_12 (at_shore hcur) rfl rfl rfl (Nat.le_of_ble_eq_true rfl) rfl rfl (Nat.le_of_ble_eq_true rfl) (Nat.le_of_ble_eq_true rfl) dX5_law_26 (fun r26 x26 hp26 => ?_)
    obtain ⟨rfl, rfl⟩ := hp26
    refine J_callVz C (N := 10) (As := [.int (nI (fri A.1 vn))]) (c_X4_isLawBy l Z _ hcur hr ok _ (fri64 ok vn)) cw_RX5_156 wd_20_23 wd_21_0 (at_shore hcur) rfl rfl rfl (Nat.le_of_ble_eq_true rfl) rfl rfl (Nat.le_of_ble_eq_true rfl) (Nat.le_of_ble_eq_true rfl) dX5_law_29 (fun b29 x29 hp29 => ?_)
    obtain ⟨rfl, rfl⟩ := hp29
    refine J_callSi C (As := [.int (b2i (isLaw A.1 (fri A.1 vn)))]) (c_X5_oneIf l Z _ _ (b2i_01 _)) cw_RX5_159 wd_18_20 rfl rfl (Nat.le_of_ble_eq_true rfl) rfl rfl (Nat.le_of_ble_eq_true rfl) (Nat.le_of_ble_eq_true rfl) dX5_law_32 (fun r32 x32 hp32 => ?_)
    obtain ⟨rfl, rfl⟩ := hp32
    exact E dX5_law_35 (⟨by rw [R_law, if_pos (of_decide_eq_true h5), if_neg k5] <;> simp only [tnv], hA⟩)
def rm_X5_back : Room := ({ frames := 1, cells := 0, slots := 0, locals := 22 })
set_option maxRecDepth 20000 in
theorem c_X5_back (l : Launch) (Z : EC) (x : St) (A : AB) (hA : AbsC x A) (hk : AOK A) (k : Int32) : MIi l Z (wC Z) yX5_back cX5_back 2 rm_X5_back [.ref (Z.2.1 0), .int k] x (fun r x1 => r = R_back A k ∧ AbsC x1 (N_back A k)) := by
  obtain ⟨⟨hcur, htr, hne, hr⟩, hH, hR, hT, hF⟩ := id hA
  obtain ⟨ok, hkH, hkR, hkr⟩ := id hk
  obtain ⟨ok0, ok1, ok2, ok3, ok4, ok5, ok6, ok7⟩ := id ok
  refine MIi_of (own := RX5) (L0 := [some (.ref (Z.2.1 0)), some (.int k)]) (by decide) rfl (Nat.le_of_ble_eq_true rfl) ⟨rfl, rfl, trivial⟩ ?_
  intro Γ C E
  refine J_iload_n C dX5_back_0 rfl rfl ?_
  refine J_iconst C (v := nI 0) dX5_back_1 (by decide) ?_
  refine J_aload_n C dX5_back_2 rfl rfl ?_
  refine G5_readings C wd_1_23 dX5_back_3 ?_
  refine G1_count C wd_4_17 dX5_back_6 ?_
  rw [show x.1 17 = nI A.2.2.1.1 from hR.1]
  refine J_callSz C (As := [.int k, .int (nI 0), .int (nI A.2.2.1.1)]) (c_X5_isWithin l Z _ _ _ _ (0) (A.2.2.1.1 : Int) (by decide) (nI_i (by omega))) cw_RX5_120 wd_4_23 rfl rfl (Nat.le_of_ble_eq_true rfl) rfl rfl (Nat.le_of_ble_eq_true rfl) (Nat.le_of_ble_eq_true rfl) dX5_back_9 (fun b9 x9 hp9 => ?_)
  obtain ⟨rfl, rfl⟩ := hp9
  refine J_if_ne_d C (tgt := 18) dX5_back_12 (by decide) (fun c12 => ?_) (fun c12 => ?_)
  · skip
    obtain ⟨kn, k0, k9, rfl⟩ := rng_nat2 (A := 0) (B := A.2.2.1.1) c12
    have tnk := tn_nI (n := kn) (by omega)
    refine J_aload_n C dX5_back_18 rfl rfl ?_
    refine G5_readings C wd_1_23 dX5_back_19 ?_
    refine J_dup C dX5_back_22 rfl ?_
    refine G1_count C wd_4_17 dX5_back_23 ?_
    rw [show x.1 17 = nI A.2.2.1.1 from hR.1]
    refine J_iload_n C dX5_back_26 rfl rfl ?_
    refine J_isub C (v := nI (A.2.2.1.1 - kn)) dX5_back_27 (pk_sub (a := A.2.2.1.1) (b := kn) (by omega)) ?_
    refine P1_count C wd_4_17 dX5_back_28 ?_
    refine J_aload_n C dX5_back_31 rfl rfl ?_
    refine G5_readings C wd_1_23 dX5_back_32 ?_
    refine G1_count C wd_4_17 dX5_back_35 ?_
    rw [show (setI x 17 (nI (A.2.2.1.1 - kn))).1 17 = nI (A.2.2.1.1 - kn) from sI_eq]
    exact E dX5_back_38 (⟨by rw [R_back, if_pos c12] <;> simp only [tnk], by rw [N_back, if_pos c12]; first | exact hA | (simp only [tnk]; exact absC_R hA (by omega))⟩)
  · skip
    refine J_bipush C (v := (-2)) dX5_back_15 (by decide) ?_
    exact E dX5_back_17 (⟨by rw [R_back, if_neg c12] <;> simp only [tnk], by rw [N_back, if_neg c12]; first | exact hA | (simp only [tnk]; exact absC_R hA (by omega))⟩)
def rm_X1_take : Room := ({ frames := 0, cells := 0, slots := 0, locals := 0 })
set_option maxRecDepth 20000 in
theorem c_X1_take (l : Launch) (Z : EC) (x : St) (A : AB) (hA : AbsC x A) (hk : AOK A) (m h q : Nat) (hn : A.2.2.1.1 < 8) : MIi l Z (wC Z) yX1_take cX1_take 4 rm_X1_take [.ref (Z.2.1 11), .int (nI m), .int (nI h), .int (nI q)] x (fun r x1 => r = nI A.2.2.1.1 ∧ AbsC x1 (AsR A (A.2.2.1.1 + 1, up2 (up2 (up2 A.2.2.1.2 0 A.2.2.1.1 m) 1 A.2.2.1.1 h) 2 A.2.2.1.1 q))) := by
  obtain ⟨⟨hcur, htr, hne, hr⟩, hH, hR, hT, hF⟩ := id hA
  obtain ⟨ok, hkH, hkR, hkr⟩ := id hk
  obtain ⟨ok0, ok1, ok2, ok3, ok4, ok5, ok6, ok7⟩ := id ok
  refine MIi_of (own := RX1) (L0 := [some (.ref (Z.2.1 11)), some (.int (nI m)), some (.int (nI h)), some (.int (nI q))]) (by decide) rfl (Nat.le_of_ble_eq_true rfl) ⟨rfl, rfl, rfl, rfl, trivial⟩ ?_
  intro Γ C E
  refine J_aload_n C dX1_take_0 rfl rfl ?_
  refine G1_who C wd_2_20 dX1_take_1 ?_
  refine J_aload_n C dX1_take_4 rfl rfl ?_
  refine G1_count C wd_29_8 dX1_take_5 ?_
  rw [show x.1 17 = nI A.2.2.1.1 from hR.1]
  refine J_iload_n C dX1_take_8 rfl rfl ?_
  refine S_who C (by omega) dX1_take_9 ?_
  refine J_aload_n C dX1_take_10 rfl rfl ?_
  refine G1_when C wd_2_21 dX1_take_11 ?_
  refine J_aload_n C dX1_take_14 rfl rfl ?_
  refine G1_count C wd_29_8 dX1_take_15 ?_
  rw [show (setA x 12 (upd (x.2.1 12) A.2.2.1.1 (nI m))).1 17 = nI A.2.2.1.1 from hR.1]
  refine J_iload_n C dX1_take_18 rfl rfl ?_
  refine S_when C (by omega) dX1_take_19 ?_
  refine J_aload_n C dX1_take_20 rfl rfl ?_
  refine G1_where C wd_2_22 dX1_take_21 ?_
  refine J_aload_n C dX1_take_24 rfl rfl ?_
  refine G1_count C wd_29_8 dX1_take_25 ?_
  rw [show (setA (setA x 12 (upd (x.2.1 12) A.2.2.1.1 (nI m))) 13 (upd ((setA x 12 (upd (x.2.1 12) A.2.2.1.1 (nI m))).2.1 13) A.2.2.1.1 (nI h))).1 17 = nI A.2.2.1.1 from hR.1]
  refine J_iload_n C dX1_take_28 rfl rfl ?_
  refine S_where C (by omega) dX1_take_29 ?_
  refine J_aload_n C dX1_take_30 rfl rfl ?_
  refine J_dup C dX1_take_31 rfl ?_
  refine G1_count C wd_29_8 dX1_take_32 ?_
  rw [show (setA (setA (setA x 12 (upd (x.2.1 12) A.2.2.1.1 (nI m))) 13 (upd ((setA x 12 (upd (x.2.1 12) A.2.2.1.1 (nI m))).2.1 13) A.2.2.1.1 (nI h))) 14 (upd ((setA (setA x 12 (upd (x.2.1 12) A.2.2.1.1 (nI m))) 13 (upd ((setA x 12 (upd (x.2.1 12) A.2.2.1.1 (nI m))).2.1 13) A.2.2.1.1 (nI h))).2.1 14) A.2.2.1.1 (nI q))).1 17 = nI A.2.2.1.1 from hR.1]
  refine J_iconst C (v := nI 1) dX1_take_35 (by decide) ?_
  refine J_iadd C (v := nI (A.2.2.1.1 + 1)) dX1_take_36 (nI_add _ _) ?_
  refine P1_count C wd_29_8 dX1_take_37 ?_
  refine J_aload_n C dX1_take_40 rfl rfl ?_
  refine G1_count C wd_29_8 dX1_take_41 ?_
  rw [show (setI (setA (setA (setA x 12 (upd (x.2.1 12) A.2.2.1.1 (nI m))) 13 (upd ((setA x 12 (upd (x.2.1 12) A.2.2.1.1 (nI m))).2.1 13) A.2.2.1.1 (nI h))) 14 (upd ((setA (setA x 12 (upd (x.2.1 12) A.2.2.1.1 (nI m))) 13 (upd ((setA x 12 (upd (x.2.1 12) A.2.2.1.1 (nI m))).2.1 13) A.2.2.1.1 (nI h))).2.1 14) A.2.2.1.1 (nI q))) 17 (nI (A.2.2.1.1 + 1))).1 17 = nI (A.2.2.1.1 + 1) from sI_eq]
  refine J_iconst C (v := nI 1) dX1_take_44 (by decide) ?_
  refine J_isub C (v := nI ((A.2.2.1.1 + 1) - 1)) dX1_take_45 (pk_sub (a := A.2.2.1.1 + 1) (b := 1) (by omega)) ?_
  exact E dX1_take_46 (⟨by rw [Nat.add_sub_cancel], absC_take hA⟩)
def rm_X5_reading : Room := ({ frames := 2, cells := 0, slots := 0, locals := 43 })
set_option maxRecDepth 20000 in
theorem c_X5_reading (l : Launch) (Z : EC) (x : St) (A : AB) (hA : AbsC x A) (hk : AOK A) (m h q : Int32) : MIi l Z (wC Z) yX5_reading cX5_reading 4 rm_X5_reading [.ref (Z.2.1 0), .int m, .int h, .int q] x (fun r x1 => r = R_reading A m h q ∧ AbsC x1 (N_reading A m h q)) := by
  obtain ⟨⟨hcur, htr, hne, hr⟩, hH, hR, hT, hF⟩ := id hA
  obtain ⟨ok, hkH, hkR, hkr⟩ := id hk
  obtain ⟨ok0, ok1, ok2, ok3, ok4, ok5, ok6, ok7⟩ := id ok
  refine MIi_of (own := RX5) (L0 := [some (.ref (Z.2.1 0)), some (.int m), some (.int h), some (.int q)]) (by decide) rfl (Nat.le_of_ble_eq_true rfl) ⟨rfl, rfl, rfl, rfl, trivial⟩ ?_
  intro Γ C E
  refine J_aload_n C dX5_reading_0 rfl rfl ?_
  refine J_iload_n C dX5_reading_1 rfl rfl ?_
  refine J_callVz C (q0 := 0) (ci := 5) (N := 8) (As := [.int m]) (c_X5_isMember l Z _ A.1 hA.1 ok _) cw_RX5_105 wd_13_2 wd_13_3 rfl rfl rfl rfl (Nat.le_of_ble_eq_true rfl) rfl rfl (Nat.le_of_ble_eq_true rfl) (Nat.le_of_ble_eq_true rfl) dX5_reading_2 (fun b2 x2 hp2 => ?_)
  obtain ⟨rfl, rfl⟩ := hp2
  refine J_if_ne_d C (tgt := 10) dX5_reading_5 (by decide) (fun c5 => ?_) (fun c5 => ?_)
  · skip
    obtain ⟨mn, hmn, rfl⟩ := rng_nat c5
    have tnm := tn_nI (n := mn) (by omega)
    have gm := ok6 mn hmn
    have hs1 := ok7 (by omega)
    refine J_iload_n C dX5_reading_10 rfl rfl ?_
    refine J_callSz C (As := [.int h]) (c_X5_isDigit l Z _ _) cw_RX5_124 wd_14_10 rfl rfl (Nat.le_of_ble_eq_true rfl) rfl rfl (Nat.le_of_ble_eq_true rfl) (Nat.le_of_ble_eq_true rfl) dX5_reading_11 (fun b11 x11 hp11 => ?_)
    obtain ⟨rfl, rfl⟩ := hp11
    refine J_if_ne_d C (tgt := 20) dX5_reading_14 (by decide) (fun c14 => ?_) (fun c14 => ?_)
    · skip
      obtain ⟨hn, h0, h9, rfl⟩ := rng_nat2 (A := 0) (B := 9) (c14)
      have tnh := tn_nI (n := hn) (by omega)
      refine J_aload_n C dX5_reading_20 rfl rfl ?_
      refine J_iload_n C dX5_reading_21 rfl rfl ?_
      refine J_callVz C (q0 := 0) (ci := 5) (N := 8) (As := [.int q]) (c_X5_isPool l Z _ A.1 hA.1 ok _) cw_RX5_89 wd_11_3 wd_11_4 rfl rfl rfl rfl (Nat.le_of_ble_eq_true rfl) rfl rfl (Nat.le_of_ble_eq_true rfl) (Nat.le_of_ble_eq_true rfl) dX5_reading_22 (fun b22 x22 hp22 => ?_)
      obtain ⟨rfl, rfl⟩ := hp22
      refine J_if_ne_d C (tgt := 30) dX5_reading_25 (by decide) (fun c25 => ?_) (fun c25 => ?_)
      · skip
        obtain ⟨qn, hqn, rfl⟩ := rng_nat c25
        have tnq := tn_nI (n := qn) (by omega)
        have gq := ok5 qn hqn
        refine J_aload_n C dX5_reading_30 rfl rfl ?_
        refine G5_readings C wd_1_23 dX5_reading_31 ?_
        refine G1_count C wd_4_17 dX5_reading_34 ?_
        rw [show x.1 17 = nI A.2.2.1.1 from hR.1]
        refine J_bipush C (v := nI 8) dX5_reading_37 (by decide) ?_
        refine J_icmp_ge_n C (tgt := 55) dX5_reading_39 (by decide) (by omega) (by omega) (fun c39 => ?_) (fun c39 => ?_)
        · skip
          refine J_bipush C (v := (-4)) dX5_reading_55 (by decide) ?_
          exact E dX5_reading_57 (⟨by rw [R_reading, if_pos c5, if_pos c14, if_pos c25, if_pos (show A.2.2.1.1 = 8 by omega)] <;> simp only [tnm], by rw [N_reading, if_pos c5, if_pos c14, if_pos c25, if_pos (show A.2.2.1.1 = 8 by omega)]; first | exact hA | (simp only [tnm, tnh, tnq]; exact hA49)⟩)
        · skip
          refine J_aload_n C dX5_reading_42 rfl rfl ?_
          refine G5_readings C wd_1_23 dX5_reading_43 ?_
          refine J_iload_n C dX5_reading_46 rfl rfl ?_
          refine J_iload_n C dX5_reading_47 rfl rfl ?_
          refine J_iload_n C dX5_reading_48 rfl rfl ?_
          refine J_callVi C (q0 := 11) (ci := 1) (N := 4) (As := [.int (nI mn), .int (nI hn), .int (nI qn)]) (c_X1_take l Z _ A hA hk _ _ _ (by omega)) cw_RX5_247 wd_29_5 wd_29_6 rfl rfl rfl rfl (Nat.le_of_ble_eq_true rfl) rfl rfl (Nat.le_of_ble_eq_true rfl) (Nat.le_of_ble_eq_true rfl) dX5_reading_49 (fun r49 x49 hp49 => ?_)
          obtain ⟨rfl, hA49⟩ := hp49
          obtain ⟨⟨hcur49, htr49, hne49, hr49o⟩, hH49o, hR49o, hT49, hF49⟩ := id hA49
          first | have hr49 : ShR x49 x49.2.2.1 A.1 := hr49o | have hr49 := hr49o
          first | have hH49 : CH x49 A.2.1 := hH49o | have hH49 := hH49o
          first | have hR49 : CR x49 A.2.2.1 := hR49o | have hR49 := hR49o
          refine J_goto (tgt := 57) C dX5_reading_52 (by decide) ?_
          exact E dX5_reading_57 (⟨by rw [R_reading, if_pos c5, if_pos c14, if_pos c25, if_neg (show ¬ A.2.2.1.1 = 8 by omega)] <;> simp only [tnm], by rw [N_reading, if_pos c5, if_pos c14, if_pos c25, if_neg (show ¬ A.2.2.1.1 = 8 by omega)]; first | exact hA49 | (simp only [tnm, tnh, tnq]; exact hA49)⟩)
      · skip
        refine J_iconst C (v := (-1)) dX5_reading_28 (by decide) ?_
        exact E dX5_reading_29 (⟨by rw [R_reading, if_pos c5, if_pos c14, if_neg c25] <;> simp only [tnm], by rw [N_reading, if_pos c5, if_pos c14, if_neg c25]; first | exact hA | (simp only [tnm, tnh, tnq]; exact hA49)⟩)
    · skip
      refine J_bipush C (v := (-2)) dX5_reading_17 (by decide) ?_
      exact E dX5_reading_19 (⟨by rw [R_reading, if_pos c5, if_neg c14] <;> simp only [tnm], by rw [N_reading, if_pos c5, if_neg c14]; first | exact hA | (simp only [tnm, tnh, tnq]; exact hA49)⟩)
  · skip
    refine J_iconst C (v := (-1)) dX5_reading_8 (by decide) ?_
    exact E dX5_reading_9 (⟨by rw [R_reading, if_neg c5] <;> simp only [tnm], by rw [N_reading, if_neg c5]; first | exact hA | (simp only [tnm, tnh, tnq]; exact hA49)⟩)
def rm_X5_leave : Room := ({ frames := 0, cells := 0, slots := 0, locals := 0 })
set_option maxRecDepth 20000 in
theorem c_X5_leave (l : Launch) (Z : EC) (x : St) (A : AB) (hA : AbsC x A) (hk : AOK A) (v : Int32) : MIv l Z (wC Z) yX5_leave cX5_leave 2 rm_X5_leave [.ref (Z.2.1 0), .int v] x (fun x1 => AbsC x1 (AsT A (trc A.2.2.2.1 v))) := by
  obtain ⟨⟨hcur, htr, hne, hr⟩, hH, hR, hT, hF⟩ := id hA
  obtain ⟨ok, hkH, hkR, hkr⟩ := id hk
  obtain ⟨ok0, ok1, ok2, ok3, ok4, ok5, ok6, ok7⟩ := id ok
  refine MIv_of (own := RX5) (L0 := [some (.ref (Z.2.1 0)), some (.int v)]) (by decide) rfl (Nat.le_of_ble_eq_true rfl) ⟨rfl, rfl, trivial⟩ ?_
  intro Γ C E
  refine J_aload_n C dX5_leave_0 rfl rfl ?_
  refine J_bipush C (v := nI 31) dX5_leave_1 (by decide) ?_
  refine J_aload_n C dX5_leave_3 rfl rfl ?_
  refine G5_traced C wd_35_1 dX5_leave_4 ?_
  refine J_imul C (v := (nI 31) * (x.1 0)) dX5_leave_7 (rfl) ?_
  refine J_iload_n C dX5_leave_8 rfl rfl ?_
  refine J_iadd C (v := ((nI 31) * (x.1 0)) + v) dX5_leave_9 (rfl) ?_
  refine P5_traced C wd_35_1 dX5_leave_10 ?_
  exact E dX5_leave_13 (by rw [← hT]; exact absC_T hA)
def rm_X5_shrimpBody : Room := ({ frames := 1, cells := 0, slots := 0, locals := 21 })
set_option maxRecDepth 20000 in
theorem c_X5_shrimpBody (l : Launch) (Z : EC) (x : St) (A : AB) (hA : AbsC x A) (hk : AOK A) (m : Nat) (hm : m < A.1.1 4) : MIi l Z (wC Z) yX5_shrimpBody cX5_shrimpBody 2 rm_X5_shrimpBody [.ref (Z.2.1 0), .int (nI m)] x (fun r x1 => r = nI (A.1.2 4 m) ∧ AbsC x1 (AsT A (trc A.2.2.2.1 (nI 1)))) := by
  obtain ⟨⟨hcur, htr, hne, hr⟩, hH, hR, hT, hF⟩ := id hA
  obtain ⟨ok, hkH, hkR, hkr⟩ := id hk
  obtain ⟨ok0, ok1, ok2, ok3, ok4, ok5, ok6, ok7⟩ := id ok
  refine MIi_of (own := RX5) (L0 := [some (.ref (Z.2.1 0)), some (.int (nI m))]) (by decide) rfl (Nat.le_of_ble_eq_true rfl) ⟨rfl, rfl, trivial⟩ ?_
  intro Γ C E
  refine J_aload_n C dX5_shrimpBody_0 rfl rfl ?_
  refine J_iconst C (v := nI 1) dX5_shrimpBody_1 (by decide) ?_
  refine J_callVv C (q0 := 0) (ci := 5) (N := 8) (As := [.int (nI 1)]) (c_X5_leave l Z _ A hA hk _) cw_RX5_297 wd_34_22 wd_34_23 rfl rfl rfl rfl (Nat.le_of_ble_eq_true rfl) rfl rfl (Nat.le_of_ble_eq_true rfl) (Nat.le_of_ble_eq_true rfl) dX5_shrimpBody_2 (fun x2 hp2 => ?_)
  have hA2 := hp2
  obtain ⟨⟨hcur2, htr2, hne2, hr2o⟩, hH2o, hR2o, hT2, hF2⟩ := id hA2
  first | have hr2 : ShR x2 x2.2.2.1 A.1 := hr2o | have hr2 := hr2o
  first | have hH2 : CH x2 A.2.1 := hH2o | have hH2 := hH2o
  first | have hR2 : CR x2 A.2.2.1 := hR2o | have hR2 := hR2o
  refine J_aload_n C dX5_shrimpBody_5 rfl rfl ?_
  refine G5_shore C wd_2_7 dX5_shrimpBody_6 ?_
  refine G4_views hcur2 C wd_13_0 dX5_shrimpBody_9 ?_
  refine J_iload_n C dX5_shrimpBody_12 rfl rfl ?_
  refine L4n_views hcur2 hr2 ok C (by omega) dX5_shrimpBody_13 ?_
  exact E dX5_shrimpBody_14 (⟨rfl, hA2⟩)
def rm_X5_crabBody : Room := ({ frames := 2, cells := 0, slots := 0, locals := 42 })
set_option maxRecDepth 20000 in
theorem c_X5_crabBody (l : Launch) (Z : EC) (x : St) (A : AB) (hA : AbsC x A) (hk : AOK A) (m : Nat) (hm : m < A.1.1 4) : MIi l Z (wC Z) yX5_crabBody cX5_crabBody 2 rm_X5_crabBody [.ref (Z.2.1 0), .int (nI m)] x (fun r x1 => r = nI (A.1.2 4 m + 100) ∧ AbsC x1 (AsT A (trc (trc A.2.2.2.1 (nI 2)) (nI 1)))) := by
  obtain ⟨⟨hcur, htr, hne, hr⟩, hH, hR, hT, hF⟩ := id hA
  obtain ⟨ok, hkH, hkR, hkr⟩ := id hk
  obtain ⟨ok0, ok1, ok2, ok3, ok4, ok5, ok6, ok7⟩ := id ok
  refine MIi_of (own := RX5) (L0 := [some (.ref (Z.2.1 0)), some (.int (nI m))]) (by decide) rfl (Nat.le_of_ble_eq_true rfl) ⟨rfl, rfl, trivial⟩ ?_
  intro Γ C E
  refine J_aload_n C dX5_crabBody_0 rfl rfl ?_
  refine J_iconst C (v := nI 2) dX5_crabBody_1 (by decide) ?_
  refine J_callVv C (q0 := 0) (ci := 5) (N := 8) (As := [.int (nI 2)]) (c_X5_leave l Z _ A hA hk _) cw_RX5_297 wd_34_22 wd_34_23 rfl rfl rfl rfl (Nat.le_of_ble_eq_true rfl) rfl rfl (Nat.le_of_ble_eq_true rfl) (Nat.le_of_ble_eq_true rfl) dX5_crabBody_2 (fun x2 hp2 => ?_)
  have hA2 := hp2
  obtain ⟨⟨hcur2, htr2, hne2, hr2o⟩, hH2o, hR2o, hT2, hF2⟩ := id hA2
  first | have hr2 : ShR x2 x2.2.2.1 A.1 := hr2o | have hr2 := hr2o
  first | have hH2 : CH x2 A.2.1 := hH2o | have hH2 := hH2o
  first | have hR2 : CR x2 A.2.2.1 := hR2o | have hR2 := hR2o
  refine J_aload_n C dX5_crabBody_5 rfl rfl ?_
  refine J_iload_n C dX5_crabBody_6 rfl rfl ?_
  refine J_callVi C (q0 := 0) (ci := 5) (N := 8) (As := [.int (nI m)]) (c_X5_shrimpBody l Z _ (AsT A (trc A.2.2.2.1 (nI 2))) hA2 hk _ hm) cw_RX5_288 wd_34_18 wd_34_19 rfl rfl rfl rfl (Nat.le_of_ble_eq_true rfl) rfl rfl (Nat.le_of_ble_eq_true rfl) (Nat.le_of_ble_eq_true rfl) dX5_crabBody_7 (fun r7 x7 hp7 => ?_)
  obtain ⟨rfl, hA7⟩ := hp7
  obtain ⟨⟨hcur7, htr7, hne7, hr7o⟩, hH7o, hR7o, hT7, hF7⟩ := id hA7
  first | have hr7 : ShR x7 x7.2.2.1 A.1 := hr7o | have hr7 := hr7o
  first | have hH7 : CH x7 A.2.1 := hH7o | have hH7 := hH7o
  first | have hR7 : CR x7 A.2.2.1 := hR7o | have hR7 := hR7o
  refine J_bipush C (v := nI 100) dX5_crabBody_10 (by decide) ?_
  refine J_iadd C (v := nI ((A.1.2 4 m) + 100)) dX5_crabBody_12 (nI_add _ _) ?_
  exact E dX5_crabBody_13 (⟨rfl, hA7⟩)
def rm_X5_limpetBody : Room := ({ frames := 3, cells := 0, slots := 0, locals := 63 })
set_option maxRecDepth 20000 in
theorem c_X5_limpetBody (l : Launch) (Z : EC) (x : St) (A : AB) (hA : AbsC x A) (hk : AOK A) (m : Nat) (hm : m < A.1.1 4) : MIi l Z (wC Z) yX5_limpetBody cX5_limpetBody 3 rm_X5_limpetBody [.ref (Z.2.1 0), .int (nI m)] x (fun r x1 => r = nI (2 * A.1.2 4 m + 100) ∧ AbsC x1 (AsT A (trc (trc (trc (trc A.2.2.2.1 (nI 3)) (nI 2)) (nI 1)) (nI 1)))) := by
  obtain ⟨⟨hcur, htr, hne, hr⟩, hH, hR, hT, hF⟩ := id hA
  obtain ⟨ok, hkH, hkR, hkr⟩ := id hk
  obtain ⟨ok0, ok1, ok2, ok3, ok4, ok5, ok6, ok7⟩ := id ok
  refine MIi_of (own := RX5) (L0 := [some (.ref (Z.2.1 0)), some (.int (nI m)), none]) (by decide) rfl (Nat.le_of_ble_eq_true rfl) ⟨rfl, rfl, trivial⟩ ?_
  intro Γ C E
  refine J_aload_n C dX5_limpetBody_0 rfl rfl ?_
  refine J_iconst C (v := nI 3) dX5_limpetBody_1 (by decide) ?_
  refine J_callVv C (q0 := 0) (ci := 5) (N := 8) (As := [.int (nI 3)]) (c_X5_leave l Z _ A hA hk _) cw_RX5_297 wd_34_22 wd_34_23 rfl rfl rfl rfl (Nat.le_of_ble_eq_true rfl) rfl rfl (Nat.le_of_ble_eq_true rfl) (Nat.le_of_ble_eq_true rfl) dX5_limpetBody_2 (fun x2 hp2 => ?_)
  have hA2 := hp2
  obtain ⟨⟨hcur2, htr2, hne2, hr2o⟩, hH2o, hR2o, hT2, hF2⟩ := id hA2
  first | have hr2 : ShR x2 x2.2.2.1 A.1 := hr2o | have hr2 := hr2o
  first | have hH2 : CH x2 A.2.1 := hH2o | have hH2 := hH2o
  first | have hR2 : CR x2 A.2.2.1 := hR2o | have hR2 := hR2o
  refine J_aload_n C dX5_limpetBody_5 rfl rfl ?_
  refine J_iload_n C dX5_limpetBody_6 rfl rfl ?_
  refine J_callVi C (q0 := 0) (ci := 5) (N := 8) (As := [.int (nI m)]) (c_X5_crabBody l Z _ (AsT A (trc A.2.2.2.1 (nI 3))) hA2 hk _ hm) cw_RX5_291 wd_35_3 wd_35_4 rfl rfl rfl rfl (Nat.le_of_ble_eq_true rfl) rfl rfl (Nat.le_of_ble_eq_true rfl) (Nat.le_of_ble_eq_true rfl) dX5_limpetBody_7 (fun r7 x7 hp7 => ?_)
  obtain ⟨rfl, hA7⟩ := hp7
  obtain ⟨⟨hcur7, htr7, hne7, hr7o⟩, hH7o, hR7o, hT7, hF7⟩ := id hA7
  first | have hr7 : ShR x7 x7.2.2.1 A.1 := hr7o | have hr7 := hr7o
  first | have hH7 : CH x7 A.2.1 := hH7o | have hH7 := hH7o
  first | have hR7 : CR x7 A.2.2.1 := hR7o | have hR7 := hR7o
  refine J_istore_n C (L' := [some (.ref (Z.2.1 0)), some (.int (nI m)), some (.int (nI (A.1.2 4 m + 100)))]) dX5_limpetBody_10 rfl (by decide) rfl rfl ?_
  refine J_iload_n C dX5_limpetBody_11 rfl rfl ?_
  refine J_aload_n C dX5_limpetBody_12 rfl rfl ?_
  refine J_iload_n C dX5_limpetBody_13 rfl rfl ?_
  refine J_callVi C (q0 := 0) (ci := 5) (N := 8) (As := [.int (nI m)]) (c_X5_shrimpBody l Z _ (AsT A (trc (trc (trc A.2.2.2.1 (nI 3)) (nI 2)) (nI 1))) hA7 hk _ hm) cw_RX5_288 wd_34_18 wd_34_19 rfl rfl rfl rfl (Nat.le_of_ble_eq_true rfl) rfl rfl (Nat.le_of_ble_eq_true rfl) (Nat.le_of_ble_eq_true rfl) dX5_limpetBody_14 (fun r14 x14 hp14 => ?_)
  obtain ⟨rfl, hA14⟩ := hp14
  obtain ⟨⟨hcur14, htr14, hne14, hr14o⟩, hH14o, hR14o, hT14, hF14⟩ := id hA14
  first | have hr14 : ShR x14 x14.2.2.1 A.1 := hr14o | have hr14 := hr14o
  first | have hH14 : CH x14 A.2.1 := hH14o | have hH14 := hH14o
  first | have hR14 : CR x14 A.2.2.1 := hR14o | have hR14 := hR14o
  refine J_iadd C (v := nI ((A.1.2 4 m + 100) + (A.1.2 4 m))) dX5_limpetBody_17 (nI_add _ _) ?_
  exact E dX5_limpetBody_18 (⟨by congr 1; omega, hA14⟩)
def rm_X5_tell : Room := ({ frames := 4, cells := 0, slots := 0, locals := 85 })
set_option maxRecDepth 20000 in
theorem c_X5_tell (l : Launch) (Z : EC) (x : St) (A : AB) (hA : AbsC x A) (hk : AOK A) (m : Int32) : MIi l Z (wC Z) yX5_tell cX5_tell 2 rm_X5_tell [.ref (Z.2.1 0), .int m] x (fun r x1 => r = R_tell A m ∧ AbsC x1 (N_tell A m)) := by
  obtain ⟨⟨hcur, htr, hne, hr⟩, hH, hR, hT, hF⟩ := id hA
  obtain ⟨ok, hkH, hkR, hkr⟩ := id hk
  obtain ⟨ok0, ok1, ok2, ok3, ok4, ok5, ok6, ok7⟩ := id ok
  refine MIi_of (own := RX5) (L0 := [some (.ref (Z.2.1 0)), some (.int m)]) (by decide) rfl (Nat.le_of_ble_eq_true rfl) ⟨rfl, rfl, trivial⟩ ?_
  intro Γ C E
  refine J_aload_n C dX5_tell_0 rfl rfl ?_
  refine J_iload_n C dX5_tell_1 rfl rfl ?_
  refine J_callVz C (q0 := 0) (ci := 5) (N := 8) (As := [.int m]) (c_X5_isMember l Z _ A.1 hA.1 ok _) cw_RX5_105 wd_13_2 wd_13_3 rfl rfl rfl rfl (Nat.le_of_ble_eq_true rfl) rfl rfl (Nat.le_of_ble_eq_true rfl) (Nat.le_of_ble_eq_true rfl) dX5_tell_2 (fun b2 x2 hp2 => ?_)
  obtain ⟨rfl, rfl⟩ := hp2
  refine J_if_ne_d C (tgt := 10) dX5_tell_5 (by decide) (fun c5 => ?_) (fun c5 => ?_)
  · skip
    obtain ⟨mn, hmn, rfl⟩ := rng_nat c5
    have tnm := tn_nI (n := mn) (by omega)
    have gm := ok6 mn hmn
    have hs1 := ok7 (by omega)
    refine J_aload_n C dX5_tell_10 rfl rfl ?_
    refine G5_shore C wd_2_7 dX5_tell_11 ?_
    refine G4_kindOf hcur C wd_12_22 dX5_tell_14 ?_
    refine J_iload_n C dX5_tell_17 rfl rfl ?_
    refine L4n_kindOf hcur hr ok C (by omega) dX5_tell_18 ?_
    by_cases s19_0 : A.1.2 2 mn = 0
    · skip
      refine J_lookup C (tgt := 44) dX5_tell_19 rfl (off := 25) (by rw [s19_0]; decide) (by decide) ?_
      refine J_aload_n C dX5_tell_44 rfl rfl ?_
      refine J_iload_n C dX5_tell_45 rfl rfl ?_
      refine J_callVi C (q0 := 0) (ci := 5) (N := 8) (As := [.int (nI mn)]) (c_X5_shrimpBody l Z _ A hA hk _ hmn) cw_RX5_288 wd_34_18 wd_34_19 rfl rfl rfl rfl (Nat.le_of_ble_eq_true rfl) rfl rfl (Nat.le_of_ble_eq_true rfl) (Nat.le_of_ble_eq_true rfl) dX5_tell_46 (fun r46 x46 hp46 => ?_)
      obtain ⟨rfl, hA46⟩ := hp46
      obtain ⟨⟨hcur46, htr46, hne46, hr46o⟩, hH46o, hR46o, hT46, hF46⟩ := id hA46
      first | have hr46 : ShR x46 x46.2.2.1 A.1 := hr46o | have hr46 := hr46o
      first | have hH46 : CH x46 A.2.1 := hH46o | have hH46 := hH46o
      first | have hR46 : CR x46 A.2.2.1 := hR46o | have hR46 := hR46o
      exact E dX5_tell_49 (⟨by rw [R_tell, if_pos c5, tnm, if_pos s19_0], by rw [N_tell, if_pos c5, tnm, if_pos s19_0]; first | exact hA46 | exact hA46⟩)
    by_cases s19_1 : A.1.2 2 mn = 1
    · skip
      refine J_lookup C (tgt := 50) dX5_tell_19 rfl (off := 31) (by rw [s19_1]; decide) (by decide) ?_
      refine J_aload_n C dX5_tell_50 rfl rfl ?_
      refine J_iload_n C dX5_tell_51 rfl rfl ?_
      refine J_callVi C (q0 := 0) (ci := 5) (N := 8) (As := [.int (nI mn)]) (c_X5_crabBody l Z _ A hA hk _ hmn) cw_RX5_291 wd_35_3 wd_35_4 rfl rfl rfl rfl (Nat.le_of_ble_eq_true rfl) rfl rfl (Nat.le_of_ble_eq_true rfl) (Nat.le_of_ble_eq_true rfl) dX5_tell_52 (fun r52 x52 hp52 => ?_)
      obtain ⟨rfl, hA52⟩ := hp52
      obtain ⟨⟨hcur52, htr52, hne52, hr52o⟩, hH52o, hR52o, hT52, hF52⟩ := id hA52
      first | have hr52 : ShR x52 x52.2.2.1 A.1 := hr52o | have hr52 := hr52o
      first | have hH52 : CH x52 A.2.1 := hH52o | have hH52 := hH52o
      first | have hR52 : CR x52 A.2.2.1 := hR52o | have hR52 := hR52o
      exact E dX5_tell_55 (⟨by rw [R_tell, if_pos c5, tnm, if_neg s19_0, if_pos s19_1], by rw [N_tell, if_pos c5, tnm, if_neg s19_0, if_pos s19_1]; first | exact hA52 | exact hA52⟩)
    refine J_lookup C (tgt := 56) dX5_tell_19 rfl (off := 37) (by show Op.lookupswitch.offset [((0 : Int), (25 : Int)), ((1 : Int), (31 : Int))] _ _ = _; rw [lv_osw (k := nI 0) (fun e => s19_0 ((nI_eq (by omega) (by decide)).mp e)) (by decide), lv_osw (k := nI 1) (fun e => s19_1 ((nI_eq (by omega) (by decide)).mp e)) (by decide)]; rfl) (by decide) ?_
    refine J_aload_n C dX5_tell_56 rfl rfl ?_
    refine J_iload_n C dX5_tell_57 rfl rfl ?_
    refine J_callVi C (q0 := 0) (ci := 5) (N := 8) (As := [.int (nI mn)]) (c_X5_limpetBody l Z _ A hA hk _ hmn) cw_RX5_294 wd_35_7 wd_35_8 rfl rfl rfl rfl (Nat.le_of_ble_eq_true rfl) rfl rfl (Nat.le_of_ble_eq_true rfl) (Nat.le_of_ble_eq_true rfl) dX5_tell_58 (fun r58 x58 hp58 => ?_)
    obtain ⟨rfl, hA58⟩ := hp58
    obtain ⟨⟨hcur58, htr58, hne58, hr58o⟩, hH58o, hR58o, hT58, hF58⟩ := id hA58
    first | have hr58 : ShR x58 x58.2.2.1 A.1 := hr58o | have hr58 := hr58o
    first | have hH58 : CH x58 A.2.1 := hH58o | have hH58 := hH58o
    first | have hR58 : CR x58 A.2.2.1 := hR58o | have hR58 := hR58o
    exact E dX5_tell_61 (⟨by rw [R_tell, if_pos c5, tnm, if_neg s19_0, if_neg s19_1], by rw [N_tell, if_pos c5, tnm, if_neg s19_0, if_neg s19_1]; first | exact hA58 | exact hA58⟩)
  · skip
    refine J_iconst C (v := (-1)) dX5_tell_8 (by decide) ?_
    exact E dX5_tell_9 (⟨by rw [R_tell, if_neg c5], by rw [N_tell, if_neg c5]; first | exact hA | exact hA⟩)
def rm_X5_name : Room := ({ frames := 2, cells := 0, slots := 0, locals := 43 })
set_option maxRecDepth 20000 in
theorem c_X5_name (l : Launch) (Z : EC) (x : St) (A : AB) (hA : AbsC x A) (hk : AOK A) (m : Int32) : MIi l Z (wC Z) yX5_name cX5_name 3 rm_X5_name [.ref (Z.2.1 0), .int m] x (fun r x1 => r = R_name A m ∧ AbsC x1 (N_name A m)) := by
  obtain ⟨⟨hcur, htr, hne, hr⟩, hH, hR, hT, hF⟩ := id hA
  obtain ⟨ok, hkH, hkR, hkr⟩ := id hk
  obtain ⟨ok0, ok1, ok2, ok3, ok4, ok5, ok6, ok7⟩ := id ok
  refine MIi_of (own := RX5) (L0 := [some (.ref (Z.2.1 0)), some (.int m), none]) (by decide) rfl (Nat.le_of_ble_eq_true rfl) ⟨rfl, rfl, trivial⟩ ?_
  intro Γ C E
  refine J_aload_n C dX5_name_0 rfl rfl ?_
  refine J_iload_n C dX5_name_1 rfl rfl ?_
  refine J_callVz C (q0 := 0) (ci := 5) (N := 8) (As := [.int m]) (c_X5_isMember l Z _ A.1 hA.1 ok _) cw_RX5_105 wd_13_2 wd_13_3 rfl rfl rfl rfl (Nat.le_of_ble_eq_true rfl) rfl rfl (Nat.le_of_ble_eq_true rfl) (Nat.le_of_ble_eq_true rfl) dX5_name_2 (fun b2 x2 hp2 => ?_)
  obtain ⟨rfl, rfl⟩ := hp2
  refine J_if_ne_d C (tgt := 10) dX5_name_5 (by decide) (fun c5 => ?_) (fun c5 => ?_)
  · skip
    obtain ⟨mn, hmn, rfl⟩ := rng_nat c5
    have tnm := tn_nI (n := mn) (by omega)
    have gm := ok6 mn hmn
    have hs1 := ok7 (by omega)
    refine J_aload_n C dX5_name_10 rfl rfl ?_
    refine G5_shore C wd_2_7 dX5_name_11 ?_
    refine G4_kindOf hcur C wd_12_22 dX5_name_14 ?_
    refine J_iload_n C dX5_name_17 rfl rfl ?_
    refine L4n_kindOf hcur hr ok C (by omega) dX5_name_18 ?_
    refine J_iconst C (v := nI 2) dX5_name_19 (by decide) ?_
    refine J_icmp_ne_n C (tgt := 27) dX5_name_20 (by decide) (by omega) (by omega) (fun c20 => ?_) (fun c20 => ?_)
    · skip
      refine J_iconst C (v := nI 0) dX5_name_27 (by decide) ?_
      refine J_istore_n C (L' := [some (.ref (Z.2.1 0)), some (.int (nI mn)), some (.int (nI 0))]) dX5_name_28 rfl (by decide) rfl rfl ?_
      refine J_aload_n C dX5_name_29 rfl rfl ?_
      refine J_iload_n C dX5_name_30 rfl rfl ?_
      refine J_if_eq C (tgt := 38) dX5_name_31 (by decide) (fun c31 => ?_) (fun c31 => absurd (by decide) c31)
      refine J_iconst C (v := nI 4) dX5_name_38 (by decide) ?_
      refine J_callVv C (q0 := 0) (ci := 5) (N := 8) (As := [.int (nI 4)]) (c_X5_leave l Z _ A hA hk _) cw_RX5_297 wd_34_22 wd_34_23 rfl rfl rfl rfl (Nat.le_of_ble_eq_true rfl) rfl rfl (Nat.le_of_ble_eq_true rfl) (Nat.le_of_ble_eq_true rfl) dX5_name_39 (fun x39 hp39 => ?_)
      have hA39 := hp39
      obtain ⟨⟨hcur39, htr39, hne39, hr39o⟩, hH39o, hR39o, hT39, hF39⟩ := id hA39
      first | have hr39 : ShR x39 x39.2.2.1 A.1 := hr39o | have hr39 := hr39o
      first | have hH39 : CH x39 A.2.1 := hH39o | have hH39 := hH39o
      first | have hR39 : CR x39 A.2.2.1 := hR39o | have hR39 := hR39o
      refine J_iload_n C dX5_name_42 rfl rfl ?_
      refine J_if_eq C (tgt := 51) dX5_name_43 (by decide) (fun c43 => ?_) (fun c43 => absurd (by decide) c43)
      refine J_iload_n C dX5_name_51 rfl rfl ?_
      exact E dX5_name_52 (⟨by rw [R_name, if_pos c5, tnm, if_neg c20], by rw [N_name, if_pos c5, tnm, if_neg c20]; first | exact hA39 | exact hA39⟩)
    · skip
      refine J_iconst C (v := nI 1) dX5_name_23 (by decide) ?_
      refine J_goto (tgt := 28) C dX5_name_24 (by decide) ?_
      refine J_istore_n C (L' := [some (.ref (Z.2.1 0)), some (.int (nI mn)), some (.int (nI 1))]) dX5_name_28 rfl (by decide) rfl rfl ?_
      refine J_aload_n C dX5_name_29 rfl rfl ?_
      refine J_iload_n C dX5_name_30 rfl rfl ?_
      refine J_if_eq C (tgt := 38) dX5_name_31 (by decide) (fun c31 => absurd c31 (by decide)) (fun c31 => ?_)
      refine J_iconst C (v := nI 5) dX5_name_34 (by decide) ?_
      refine J_goto (tgt := 39) C dX5_name_35 (by decide) ?_
      refine J_callVv C (q0 := 0) (ci := 5) (N := 8) (As := [.int (nI 5)]) (c_X5_leave l Z _ A hA hk _) cw_RX5_297 wd_34_22 wd_34_23 rfl rfl rfl rfl (Nat.le_of_ble_eq_true rfl) rfl rfl (Nat.le_of_ble_eq_true rfl) (Nat.le_of_ble_eq_true rfl) dX5_name_39 (fun x39 hp39 => ?_)
      have hA39 := hp39
      obtain ⟨⟨hcur39, htr39, hne39, hr39o⟩, hH39o, hR39o, hT39, hF39⟩ := id hA39
      first | have hr39 : ShR x39 x39.2.2.1 A.1 := hr39o | have hr39 := hr39o
      first | have hH39 : CH x39 A.2.1 := hH39o | have hH39 := hH39o
      first | have hR39 : CR x39 A.2.2.1 := hR39o | have hR39 := hR39o
      refine J_iload_n C dX5_name_42 rfl rfl ?_
      refine J_if_eq C (tgt := 51) dX5_name_43 (by decide) (fun c43 => absurd c43 (by decide)) (fun c43 => ?_)
      refine J_bipush C (v := nI 60) dX5_name_46 (by decide) ?_
      refine J_goto (tgt := 52) C dX5_name_48 (by decide) ?_
      exact E dX5_name_52 (⟨by rw [R_name, if_pos c5, tnm, if_pos c20], by rw [N_name, if_pos c5, tnm, if_pos c20]; first | exact hA39 | exact hA39⟩)
  · skip
    refine J_iconst C (v := (-1)) dX5_name_8 (by decide) ?_
    exact E dX5_name_9 (⟨by rw [R_name, if_neg c5], by rw [N_name, if_neg c5]; first | exact hA | exact hA⟩)
def rm_X5_faulted : Room := ({ frames := 0, cells := 0, slots := 0, locals := 0 })
set_option maxRecDepth 20000 in
theorem c_X5_faulted (l : Launch) (Z : EC) (x : St) (A : AB) (hA : AbsC x A) (hk : AOK A) (f : Nat) : MIi l Z (wC Z) yX5_faulted cX5_faulted 2 rm_X5_faulted [.ref (Z.2.1 0), .int (nI f)] x (fun r x1 => r = (-10) - nI f ∧ AbsC x1 (AsF A (nI f))) := by
  obtain ⟨⟨hcur, htr, hne, hr⟩, hH, hR, hT, hF⟩ := id hA
  obtain ⟨ok, hkH, hkR, hkr⟩ := id hk
  obtain ⟨ok0, ok1, ok2, ok3, ok4, ok5, ok6, ok7⟩ := id ok
  refine MIi_of (own := RX5) (L0 := [some (.ref (Z.2.1 0)), some (.int (nI f))]) (by decide) rfl (Nat.le_of_ble_eq_true rfl) ⟨rfl, rfl, trivial⟩ ?_
  intro Γ C E
  refine J_aload_n C dX5_faulted_0 rfl rfl ?_
  refine J_iload_n C dX5_faulted_1 rfl rfl ?_
  refine P5_latestFault C wd_4_16 dX5_faulted_2 ?_
  refine J_bipush C (v := (-10)) dX5_faulted_5 (by decide) ?_
  refine J_iload_n C dX5_faulted_7 rfl rfl ?_
  refine J_isub C (v := (-10) - nI f) dX5_faulted_8 (rfl) ?_
  exact E dX5_faulted_9 (⟨rfl, absC_F hA⟩)
def rm_X5_as : Room := ({ frames := 2, cells := 0, slots := 0, locals := 43 })
set_option maxRecDepth 20000 in
theorem c_X5_as (l : Launch) (Z : EC) (x : St) (A : AB) (hA : AbsC x A) (hk : AOK A) (m k : Int32) : MIi l Z (wC Z) yX5_as cX5_as 3 rm_X5_as [.ref (Z.2.1 0), .int m, .int k] x (fun r x1 => r = R_as A m k ∧ AbsC x1 (N_as A m k)) := by
  obtain ⟨⟨hcur, htr, hne, hr⟩, hH, hR, hT, hF⟩ := id hA
  obtain ⟨ok, hkH, hkR, hkr⟩ := id hk
  obtain ⟨ok0, ok1, ok2, ok3, ok4, ok5, ok6, ok7⟩ := id ok
  refine MIi_of (own := RX5) (L0 := [some (.ref (Z.2.1 0)), some (.int m), some (.int k)]) (by decide) rfl (Nat.le_of_ble_eq_true rfl) ⟨rfl, rfl, rfl, trivial⟩ ?_
  intro Γ C E
  refine J_aload_n C dX5_as_0 rfl rfl ?_
  refine J_iconst C (v := nI 0) dX5_as_1 (by decide) ?_
  refine P5_latestFault C wd_4_16 dX5_as_2 ?_
  have hAz := absC_F (v := nI 0) hA
  generalize setI x 1 (nI 0) = x0 at hAz ⊢
  obtain ⟨⟨hcur2, htr2, hne2, hr2o⟩, hH2o, hR2o, hT2, hF2⟩ := id hAz
  first | have hr2 : ShR x0 x0.2.2.1 A.1 := hr2o | have hr2 := hr2o
  first | have hH2 : CH x0 A.2.1 := hH2o | have hH2 := hH2o
  first | have hR2 : CR x0 A.2.2.1 := hR2o | have hR2 := hR2o
  refine J_aload_n C dX5_as_5 rfl rfl ?_
  refine J_iload_n C dX5_as_6 rfl rfl ?_
  refine J_callVz C (q0 := 0) (ci := 5) (N := 8) (As := [.int m]) (c_X5_isMember l Z _ A.1 hAz.1 ok _) cw_RX5_105 wd_13_2 wd_13_3 rfl rfl rfl rfl (Nat.le_of_ble_eq_true rfl) rfl rfl (Nat.le_of_ble_eq_true rfl) (Nat.le_of_ble_eq_true rfl) dX5_as_7 (fun b7 x7 hp7 => ?_)
  obtain ⟨rfl, rfl⟩ := hp7
  refine J_if_ne_d C (tgt := 15) dX5_as_10 (by decide) (fun c10 => ?_) (fun c10 => ?_)
  · skip
    obtain ⟨mn, hmn, rfl⟩ := rng_nat c10
    have tnm := tn_nI (n := mn) (by omega)
    have gm := ok6 mn hmn
    have hs1 := ok7 (by omega)
    refine J_iload_n C dX5_as_15 rfl rfl ?_
    refine J_iconst C (v := nI 0) dX5_as_16 (by decide) ?_
    refine J_iconst C (v := nI 2) dX5_as_17 (by decide) ?_
    refine J_callSz C (As := [.int k, .int (nI 0), .int (nI 2)]) (c_X5_isWithin l Z _ _ _ _ (0) (2) (by decide) (by decide)) cw_RX5_120 wd_4_23 rfl rfl (Nat.le_of_ble_eq_true rfl) rfl rfl (Nat.le_of_ble_eq_true rfl) (Nat.le_of_ble_eq_true rfl) dX5_as_18 (fun b18 x18 hp18 => ?_)
    obtain ⟨rfl, rfl⟩ := hp18
    refine J_if_ne_d C (tgt := 27) dX5_as_21 (by decide) (fun c21 => ?_) (fun c21 => ?_)
    · skip
      obtain ⟨kn, k0, k9, rfl⟩ := rng_nat2 (A := 0) (B := 2) (c21)
      have tnk := tn_nI (n := kn) (by omega)
      refine J_iload_n C dX5_as_27 rfl rfl ?_
      refine J_aload_n C dX5_as_28 rfl rfl ?_
      refine G5_shore C wd_2_7 dX5_as_29 ?_
      refine G4_kindOf hcur2 C wd_12_22 dX5_as_32 ?_
      refine J_iload_n C dX5_as_35 rfl rfl ?_
      refine L4n_kindOf hcur2 hr2 ok C (by omega) dX5_as_36 ?_
      refine J_icmp_le_n C (tgt := 48) dX5_as_37 (by decide) (by omega) (by omega) (fun c37 => ?_) (fun c37 => ?_)
      · skip
        refine J_iconst C (v := nI 1) dX5_as_48 (by decide) ?_
        exact E dX5_as_49 (⟨by rw [R_as, if_pos c10, if_pos c21, tnm, tnk, if_neg (show ¬ A.1.2 2 mn < kn by omega)] <;> first | rfl | decide | simp only [tn], by rw [N_as, if_pos c10, if_pos c21, tnm, tnk, if_neg (show ¬ A.1.2 2 mn < kn by omega)]; first | exact hAz | (simp only [tn]; exact hAz)⟩)
      · skip
        refine J_aload_n C dX5_as_40 rfl rfl ?_
        refine J_iconst C (v := nI 2) dX5_as_41 (by decide) ?_
        refine J_callVi C (q0 := 0) (ci := 5) (N := 8) (As := [.int (nI 2)]) (c_X5_faulted l Z _ (AsF A (nI 0)) hAz hk _) cw_RX5_64 wd_5_15 wd_5_16 rfl rfl rfl rfl (Nat.le_of_ble_eq_true rfl) rfl rfl (Nat.le_of_ble_eq_true rfl) (Nat.le_of_ble_eq_true rfl) dX5_as_42 (fun r42 x42 hp42 => ?_)
        obtain ⟨rfl, hA42⟩ := hp42
        obtain ⟨⟨hcur42, htr42, hne42, hr42o⟩, hH42o, hR42o, hT42, hF42⟩ := id hA42
        first | have hr42 : ShR x42 x42.2.2.1 A.1 := hr42o | have hr42 := hr42o
        first | have hH42 : CH x42 A.2.1 := hH42o | have hH42 := hH42o
        first | have hR42 : CR x42 A.2.2.1 := hR42o | have hR42 := hR42o
        refine J_goto (tgt := 49) C dX5_as_45 (by decide) ?_
        exact E dX5_as_49 (⟨by rw [R_as, if_pos c10, if_pos c21, tnm, tnk, if_pos (show A.1.2 2 mn < kn by omega)] <;> first | rfl | decide | simp only [tn], by rw [N_as, if_pos c10, if_pos c21, tnm, tnk, if_pos (show A.1.2 2 mn < kn by omega)]; first | exact hA42 | (simp only [tn]; exact hA42)⟩)
    · skip
      refine J_bipush C (v := (-2)) dX5_as_24 (by decide) ?_
      exact E dX5_as_26 (⟨by rw [R_as, if_pos c10, if_neg c21] <;> first | rfl | decide | simp only [tn], by rw [N_as, if_pos c10, if_neg c21]; first | exact hAz | (simp only [tn]; exact hAz)⟩)
  · skip
    refine J_iconst C (v := (-1)) dX5_as_13 (by decide) ?_
    exact E dX5_as_14 (⟨by rw [R_as, if_neg c10] <;> first | rfl | decide | simp only [tn], by rw [N_as, if_neg c10]; first | exact hAz | (simp only [tn]; exact hAz)⟩)
def rm_X5_trace : Room := ({ frames := 0, cells := 0, slots := 0, locals := 0 })
set_option maxRecDepth 20000 in
theorem c_X5_trace (l : Launch) (Z : EC) (x : St) (A : AB) (hA : AbsC x A) (hk : AOK A)  : MIi l Z (wC Z) yX5_trace cX5_trace 1 rm_X5_trace [.ref (Z.2.1 0)] x (fun r x1 => r = A.2.2.2.1 ∧ AbsC x1 A) := by
  obtain ⟨⟨hcur, htr, hne, hr⟩, hH, hR, hT, hF⟩ := id hA
  obtain ⟨ok, hkH, hkR, hkr⟩ := id hk
  obtain ⟨ok0, ok1, ok2, ok3, ok4, ok5, ok6, ok7⟩ := id ok
  refine MIi_of (own := RX5) (L0 := [some (.ref (Z.2.1 0))]) (by decide) rfl (Nat.le_of_ble_eq_true rfl) ⟨rfl, trivial⟩ ?_
  intro Γ C E
  refine J_aload_n C dX5_trace_0 rfl rfl ?_
  refine G5_traced C wd_35_1 dX5_trace_1 ?_
  exact E dX5_trace_4 (⟨hT, hA⟩)
def rm_X5_fault : Room := ({ frames := 0, cells := 0, slots := 0, locals := 0 })
set_option maxRecDepth 20000 in
theorem c_X5_fault (l : Launch) (Z : EC) (x : St) (A : AB) (hA : AbsC x A) (hk : AOK A)  : MIi l Z (wC Z) yX5_fault cX5_fault 1 rm_X5_fault [.ref (Z.2.1 0)] x (fun r x1 => r = A.2.2.2.2 ∧ AbsC x1 A) := by
  obtain ⟨⟨hcur, htr, hne, hr⟩, hH, hR, hT, hF⟩ := id hA
  obtain ⟨ok, hkH, hkR, hkr⟩ := id hk
  obtain ⟨ok0, ok1, ok2, ok3, ok4, ok5, ok6, ok7⟩ := id ok
  refine MIi_of (own := RX5) (L0 := [some (.ref (Z.2.1 0))]) (by decide) rfl (Nat.le_of_ble_eq_true rfl) ⟨rfl, trivial⟩ ?_
  intro Γ C E
  refine J_aload_n C dX5_fault_0 rfl rfl ?_
  refine G5_latestFault C wd_4_16 dX5_fault_1 ?_
  exact E dX5_fault_4 (⟨hF, hA⟩)
def rm_X5_many : Room := ({ frames := 0, cells := 0, slots := 0, locals := 0 })
set_option maxRecDepth 20000 in
theorem c_X5_many (l : Launch) (Z : EC) (x : St) (A : AB) (hA : AbsC x A) (hk : AOK A) (w : Int32) : MIi l Z (wC Z) yX5_many cX5_many 2 rm_X5_many [.ref (Z.2.1 0), .int w] x (fun r x1 => r = R_many A w ∧ AbsC x1 A) := by
  obtain ⟨⟨hcur, htr, hne, hr⟩, hH, hR, hT, hF⟩ := id hA
  obtain ⟨ok, hkH, hkR, hkr⟩ := id hk
  obtain ⟨ok0, ok1, ok2, ok3, ok4, ok5, ok6, ok7⟩ := id ok
  refine MIi_of (own := RX5) (L0 := [some (.ref (Z.2.1 0)), some (.int w)]) (by decide) rfl (Nat.le_of_ble_eq_true rfl) ⟨rfl, rfl, trivial⟩ ?_
  intro Γ C E
  refine J_iload_n C dX5_many_0 rfl rfl ?_
  by_cases s1_0 : w = nI 0
  · skip
    refine J_tabIn C (tgt := 40) dX5_many_1 (by rw [s1_0]; decide) (by rw [s1_0]; decide) (by rw [s1_0]; rfl) (by decide) ?_
    refine J_aload_n C dX5_many_40 rfl rfl ?_
    refine G5_shore C wd_2_7 dX5_many_41 ?_
    refine G4n_members hcur hr C wd_4_18 dX5_many_44 ?_
    exact E dX5_many_47 (⟨by rw [R_many, if_pos s1_0], hA⟩)
  by_cases s1_1 : w = nI 1
  · skip
    refine J_tabIn C (tgt := 48) dX5_many_1 (by rw [s1_1]; decide) (by rw [s1_1]; decide) (by rw [s1_1]; rfl) (by decide) ?_
    refine J_aload_n C dX5_many_48 rfl rfl ?_
    refine G5_shore C wd_2_7 dX5_many_49 ?_
    refine G4n_pools hcur hr C wd_11_6 dX5_many_52 ?_
    exact E dX5_many_55 (⟨by rw [R_many, if_neg s1_0, if_pos s1_1], hA⟩)
  by_cases s1_2 : w = nI 2
  · skip
    refine J_tabIn C (tgt := 56) dX5_many_1 (by rw [s1_2]; decide) (by rw [s1_2]; decide) (by rw [s1_2]; rfl) (by decide) ?_
    refine J_aload_n C dX5_many_56 rfl rfl ?_
    refine G5_shore C wd_2_7 dX5_many_57 ?_
    refine G4n_stream hcur hr C wd_15_7 dX5_many_60 ?_
    exact E dX5_many_63 (⟨by rw [R_many, if_neg s1_0, if_neg s1_1, if_pos s1_2], hA⟩)
  by_cases s1_3 : w = nI 3
  · skip
    refine J_tabIn C (tgt := 64) dX5_many_1 (by rw [s1_3]; decide) (by rw [s1_3]; decide) (by rw [s1_3]; rfl) (by decide) ?_
    refine J_aload_n C dX5_many_64 rfl rfl ?_
    refine G5_shore C wd_2_7 dX5_many_65 ?_
    refine G4n_mild hcur hr C wd_16_0 dX5_many_68 ?_
    exact E dX5_many_71 (⟨by rw [R_many, if_neg s1_0, if_neg s1_1, if_neg s1_2, if_pos s1_3], hA⟩)
  by_cases s1_4 : w = nI 4
  · skip
    refine J_tabIn C (tgt := 72) dX5_many_1 (by rw [s1_4]; decide) (by rw [s1_4]; decide) (by rw [s1_4]; rfl) (by decide) ?_
    refine J_aload_n C dX5_many_72 rfl rfl ?_
    refine G5_shore C wd_2_7 dX5_many_73 ?_
    refine G4n_reach hcur hr C wd_16_9 dX5_many_76 ?_
    exact E dX5_many_79 (⟨by rw [R_many, if_neg s1_0, if_neg s1_1, if_neg s1_2, if_neg s1_3, if_pos s1_4], hA⟩)
  by_cases s1_5 : w = nI 5
  · skip
    refine J_tabIn C (tgt := 80) dX5_many_1 (by rw [s1_5]; decide) (by rw [s1_5]; decide) (by rw [s1_5]; rfl) (by decide) ?_
    refine J_aload_n C dX5_many_80 rfl rfl ?_
    refine G5_readings C wd_1_23 dX5_many_81 ?_
    refine G1_count C wd_4_17 dX5_many_84 ?_
    rw [show x.1 17 = nI A.2.2.1.1 from hR.1]
    exact E dX5_many_87 (⟨by rw [R_many, if_neg s1_0, if_neg s1_1, if_neg s1_2, if_neg s1_3, if_neg s1_4, if_pos s1_5], hA⟩)
  refine J_tabOut C (tgt := 88) dX5_many_1 (tab_out (lo := 0) (hi := 5) (fun z h1 h2 => by rcases (show z = 0 ∨ z = 1 ∨ z = 2 ∨ z = 3 ∨ z = 4 ∨ z = 5 by omega) with rfl | rfl | rfl | rfl | rfl | rfl <;> assumption)) (by decide) ?_
  refine J_bipush C (v := (-2)) dX5_many_88 (by decide) ?_
  exact E dX5_many_90 (⟨by rw [R_many, if_neg s1_0, if_neg s1_1, if_neg s1_2, if_neg s1_3, if_neg s1_4, if_neg s1_5], hA⟩)
def rm_X5_lose : Room := ({ frames := 2, cells := 0, slots := 0, locals := 42 })
set_option maxRecDepth 20000 in
theorem c_X5_lose (l : Launch) (Z : EC) (x : St) (A : AB) (hA : AbsC x A) (hk : AOK A) (k : Int32) : MIi l Z (wC Z) yX5_lose cX5_lose 3 rm_X5_lose [.ref (Z.2.1 0), .int k] x (fun r x1 => r = R_lose A k ∧ AbsC x1 (N_lose A k)) := by
  obtain ⟨⟨hcur, htr, hne, hr⟩, hH, hR, hT, hF⟩ := id hA
  obtain ⟨ok, hkH, hkR, hkr⟩ := id hk
  obtain ⟨ok0, ok1, ok2, ok3, ok4, ok5, ok6, ok7⟩ := id ok
  refine MIi_of (own := RX5) (L0 := [some (.ref (Z.2.1 0)), some (.int k), none]) (by decide) rfl (Nat.le_of_ble_eq_true rfl) ⟨rfl, rfl, trivial⟩ ?_
  intro Γ C E
  refine J_iload_n C dX5_lose_0 rfl rfl ?_
  refine J_callSz C (As := [.int k]) (c_X5_isSheet l Z _ _) cw_RX5_53 wd_4_20 rfl rfl (Nat.le_of_ble_eq_true rfl) rfl rfl (Nat.le_of_ble_eq_true rfl) (Nat.le_of_ble_eq_true rfl) dX5_lose_1 (fun b1 x1 hp1 => ?_)
  obtain ⟨rfl, rfl⟩ := hp1
  refine J_if_ne_d C (tgt := 9) dX5_lose_4 (by decide) (fun c4 => ?_) (fun c4 => ?_)
  · skip
    obtain ⟨kn, k0, k3, rfl⟩ := rng_nat2 (A := 0) (B := 3) c4
    have hkn : kn < 4 := by omega
    have tnk := tn_nI (n := kn) (by omega)
    have gk := hkH kn hkn
    refine J_aload_n C dX5_lose_9 rfl rfl ?_
    refine G5_sheets C wd_1_13 dX5_lose_10 ?_
    refine J_iload_n C dX5_lose_13 rfl rfl ?_
    refine L_sheets C (by omega) dX5_lose_14 ?_
    refine G3_isThere (by omega) C wd_5_7 dX5_lose_15 ?_
    rw [show x.1 (2 + 3 * kn) = b2i (decide (A.2.1.1 kn ≠ 0)) from (hH kn (by omega)).1]
    refine J_callSi C (As := [.int (b2i (decide (A.2.1.1 kn ≠ 0)))]) (c_X5_oneIf l Z _ _ (b2i_01 _)) cw_RX5_159 wd_18_20 rfl rfl (Nat.le_of_ble_eq_true rfl) rfl rfl (Nat.le_of_ble_eq_true rfl) (Nat.le_of_ble_eq_true rfl) dX5_lose_18 (fun r18 x18 hp18 => ?_)
    obtain ⟨rfl, rfl⟩ := hp18
    refine J_istore_n C (L' := [some (.ref (Z.2.1 0)), some (.int (nI kn)), some (.int (b2i (decide (A.2.1.1 kn ≠ 0))))]) dX5_lose_21 rfl (by decide) rfl rfl ?_
    refine J_aload_n C dX5_lose_22 rfl rfl ?_
    refine G5_sheets C wd_1_13 dX5_lose_23 ?_
    refine J_iload_n C dX5_lose_26 rfl rfl ?_
    refine L_sheets C (by omega) dX5_lose_27 ?_
    refine J_iconst C (v := b2i false) dX5_lose_28 (rfl) ?_
    refine P3_isThere (by omega) C wd_5_7 dX5_lose_29 ?_
    refine J_iload_n C dX5_lose_32 rfl rfl ?_
    exact E dX5_lose_33 (⟨by rw [R_lose, if_pos c4, tnk], by rw [N_lose, if_pos c4, tnk]; first | exact hA | exact absC_lose hA hkn⟩)
  · skip
    refine J_iconst C (v := (-1)) dX5_lose_7 (by decide) ?_
    exact E dX5_lose_8 (⟨by rw [R_lose, if_neg c4], by rw [N_lose, if_neg c4]; first | exact hA | exact absC_lose hA hkn⟩)
